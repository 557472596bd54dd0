/**
 * A WormHeap and a PlainHeap that get the same calls, 512 at most: what later ones answer is free. An answer that
 * differs is told with all calls ahead of it.
 */
final class Pair {
    static final int MOST_CALLS = 512;

    final PlainHeap plain = new PlainHeap();
    private final WormHeap x = new WormHeap();
    private final Check check;
    private final StringBuilder calls = new StringBuilder();
    private int made;

    Pair(Check check) {
        this.check = check;
    }

    /** How many calls the object may still get. */
    int left() {
        return MOST_CALLS - made;
    }

    private int same(String call, int want, int got) {
        made++;
        if (made > MOST_CALLS) {
            throw new IllegalStateException("too many calls:" + calls);
        }
        calls.append(' ').append(call);
        check.due(want == got ? call : calls.toString(), want, got);
        return want;
    }

    private static String row(String name, long... numbers) {
        StringBuilder row = new StringBuilder(name).append('(');
        for (int i = 0; i < numbers.length; i++) {
            row.append(i > 0 ? ", " : "").append(numbers[i]);
        }
        return row.append(')').toString();
    }

    int piece(int a, int b, int c, int d) {
        return same(row("piece", a, b, c, d), plain.piece(a, b, c, d), x.piece(a, b, c, d));
    }

    int told(int a, int b) {
        return same(row("told", a, b), plain.told(a, b), x.told(a, b));
    }

    int of(int a, int b) {
        return same(row("of", a, b), plain.of(a, b), x.of(a, b));
    }

    int sense(int a, int b) {
        return same(row("sense", a, b), plain.sense(a, b), x.sense(a, b));
    }

    int type(long a, int b) {
        return same(row("type", a, b), plain.type(a, b), x.type(a, b));
    }

    int heap() {
        return same("heap()", plain.heap(), x.heap());
    }

    int night() {
        return same("night()", plain.night(), x.night());
    }

    int count(int a) {
        return same(row("count", a), plain.count(a), x.count(a));
    }

    int lift(int a) {
        return same(row("lift", a), plain.lift(a), x.lift(a));
    }

    int lay(int a, int b) {
        return same(row("lay", a, b), plain.lay(a, b), x.lay(a, b));
    }

    int swap(int a, int b) {
        return same(row("swap", a, b), plain.swap(a, b), x.swap(a, b));
    }

    int push(int a, int b) {
        return same(row("push", a, b), plain.push(a, b), x.push(a, b));
    }

    int turn() {
        return same("turn()", plain.turn(), x.turn());
    }

    int had(int a, int b) {
        return same(row("had", a, b), plain.had(a, b), x.had(a, b));
    }

    int under(int a) {
        return same(row("under", a), plain.under(a), x.under(a));
    }

    int own() {
        return same("own()", plain.own(), x.own());
    }

    int odds(int a, int b, int c, int d, int e) {
        return same(row("odds", a, b, c, d, e), plain.odds(a, b, c, d, e), x.odds(a, b, c, d, e));
    }

    int share(int a, int b, int c) {
        return same(row("share", a, b, c), plain.share(a, b, c), x.share(a, b, c));
    }

    int image() {
        return same("image()", plain.image(), x.image());
    }

    int restore() {
        return same("restore()", plain.restore(), x.restore());
    }

    int dents(int a, int b, int c, int d) {
        return same(row("dents", a, b, c, d), plain.dents(a, b, c, d), x.dents(a, b, c, d));
    }

    int tried(int a, int b, int c, int d, int e) {
        return same(row("tried", a, b, c, d, e), plain.tried(a, b, c, d, e), x.tried(a, b, c, d, e));
    }

    int film(int a, int b, int c) {
        return same(row("film", a, b, c), plain.film(a, b, c), x.film(a, b, c));
    }

    int sheet(int a, int b, int c) {
        return same(row("sheet", a, b, c), plain.sheet(a, b, c), x.sheet(a, b, c));
    }

    int drop(int a) {
        return same(row("drop", a), plain.drop(a), x.drop(a));
    }

    int item(int a, int b, int c, long d) {
        return same(row("item", a, b, c, d), plain.item(a, b, c, d), x.item(a, b, c, d));
    }

    int copy(int a, int b, int c, int d, int e) {
        return same(row("copy", a, b, c, d, e), plain.copy(a, b, c, d, e), x.copy(a, b, c, d, e));
    }

    /** Types a text, up to eight bytes a call. */
    void write(String text) {
        for (int i = 0; i < text.length(); i += 8) {
            String part = text.substring(i, Math.min(text.length(), i + 8));
            type(Check.word(part), part.length());
        }
    }

    /** Where all pieces are, how they lie and what is felt: 104 calls. */
    void look() {
        for (int piece = 0; piece < 12; piece++) {
            for (int what = 0; what < 5; what++) {
                told(piece, what);
            }
        }
        for (int place = 0; place < 6; place++) {
            for (int what = 0; what < 4; what++) {
                of(place, what);
            }
            count(place);
        }
        for (int town = 0; town < 4; town++) {
            under(town);
        }
        own();
    }
}
