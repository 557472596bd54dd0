import java.util.ArrayList;
import java.util.List;
import java.util.regex.Matcher;
import java.util.regex.Pattern;

/**
 * The document's words done in the slowest and plainest way, for ModelTest: every place is a list, every search tries
 * all there is, texts are read by patterns.
 */
final class PlainHeap {
    static final int BAD = -1, NOT = -2, FULL = -3, NONE = -4, NULL = -11, CAST = -12, INDEX = -13, SIZE = -14;

    /** One piece: kind, weight, town, and whether it was eaten. */
    record Piece(int kind, int weight, int town) {
        int weighs() {
            return kind == 1 ? weight + 2 : weight;
        }

        int owner() {
            return kind == 2 ? 4 : town;
        }
    }

    /** All that an image keeps. */
    static final class State {
        final List<Piece> pieces = new ArrayList<>();
        final List<List<Integer>> places = new ArrayList<>();
        final List<Integer> bag = new ArrayList<>();
        final int[] senses = {3, 3, 3, 3, 3, 3};
        int awake;

        State() {
            for (int i = 0; i < 6; i++) {
                places.add(new ArrayList<>());
            }
        }

        State(State other) {
            pieces.addAll(other.pieces);
            for (List<Integer> place : other.places) {
                places.add(new ArrayList<>(place));
            }
            bag.addAll(other.bag);
            System.arraycopy(other.senses, 0, senses, 0, 6);
            awake = other.awake;
        }

        int load(List<Integer> row) {
            return row.stream().mapToInt(p -> pieces.get(p).weighs()).sum();
        }

        int top(int place) {
            List<Integer> row = places.get(place);
            return row.isEmpty() ? 12 : row.get(row.size() - 1);
        }

        int placeOf(int piece) {
            for (int i = 0; i < 6; i++) {
                if (places.get(i).contains(piece)) {
                    return i;
                }
            }
            return bag.contains(piece) ? 6 : 7;
        }

        /** The state behind an act; null if it can't be. */
        State behind(int code) {
            State then = new State(this);
            int how = code / 1000, place = code / 100 % 10, other = code % 100;
            if (how != 1 && then.places.get(place).isEmpty()) {
                return null;
            }
            if ((how == 1 || how == 2) && !then.bag.contains(other)) {
                return null;
            }
            Integer top = how == 1 ? null : then.places.get(place).remove(then.places.get(place).size() - 1);
            if (how == 0 || how == 2) {
                then.bag.add(top);
            }
            if (how == 1 || how == 2) {
                then.bag.remove((Integer) other);
                then.places.get(place).add(other);
            }
            if (how == 3) {
                then.places.get(other).add(top);
            }
            return then;
        }

        boolean feels(State then) {
            for (int i = 0; i < 6; i++) {
                if (Math.abs(load(places.get(i)) - then.load(then.places.get(i))) > senses[i]) {
                    return true;
                }
            }
            return false;
        }

        void wake() {
            awake++;
            int eaten = -1;
            for (int p = 0; p < pieces.size(); p++) {
                if (bag.contains(p) && pieces.get(p).kind() != 3
                    && (eaten < 0 || pieces.get(p).weighs() < pieces.get(eaten).weighs())) {
                    eaten = p;
                }
            }
            bag.remove((Integer) eaten);
        }
    }

    State now = new State();
    State image;
    String tape = "";
    final long[][] sheets = new long[4][];
    final int[] lanes = new int[4];

    private static boolean in(long v, long least, long most) {
        return v >= least && v <= most;
    }

    private boolean isPiece(int p) {
        return in(p, 0, now.pieces.size() - 1);
    }

    int piece(int kind, int weight, int town, int place) {
        if (!in(kind, 0, 3) || !in(weight, 1, 99) || !in(town, 0, 3) || !in(place, 0, 6)) {
            return BAD;
        }
        if (now.pieces.size() == 12) {
            return FULL;
        }
        now.pieces.add(new Piece(kind, weight, town));
        int number = now.pieces.size() - 1;
        (place == 6 ? now.bag : now.places.get(place)).add(number);
        return number;
    }

    int told(int piece, int what) {
        if (!isPiece(piece) || !in(what, 0, 4)) {
            return BAD;
        }
        Piece p = now.pieces.get(piece);
        int place = now.placeOf(piece);
        int off = place < 6 ? now.places.get(place).size() - 1 - now.places.get(place).indexOf(piece) : 0;
        return new int[] {p.kind(), p.weighs(), p.owner(), place, off}[what];
    }

    int of(int place, int what) {
        if (!in(place, 0, 5) || !in(what, 0, 3)) {
            return BAD;
        }
        List<Integer> row = now.places.get(place);
        return new int[] {now.load(row), row.size(), now.senses[place], now.top(place)}[what];
    }

    int sense(int place, int v) {
        if (!in(place, 0, 5) || !in(v, 0, 99)) {
            return BAD;
        }
        int before = now.senses[place];
        now.senses[place] = v;
        return before;
    }

    int type(long w, int n) {
        if (!in(n, 1, 8)) {
            return BAD;
        }
        StringBuilder typed = new StringBuilder();
        for (int i = n - 1; i >= 0; i--) {
            typed.append((char) (w >>> 8 * i & 255));
        }
        if (!typed.chars().allMatch(c -> c >= 32 && c <= 126)) {
            return BAD;
        }
        if (tape.length() + n > 120) {
            return FULL;
        }
        tape += typed;
        return tape.length();
    }

    private static final Pattern NUMBER = Pattern.compile("[cklr] *([0-9]+)");
    private static final String PIECE = " *[cklr] *[0-9]+( *t *[0-3])?( *@ *[0-5])?";
    private static final Pattern HEAP = Pattern.compile(PIECE + "( *," + PIECE + "){0,11} *");

    /** The place of the first byte by which a text can't be begun; its length if all of it begins one; -1: it is one. */
    private static int fault(Pattern pattern, String text) {
        for (int i = 1; i <= text.length(); i++) {
            Matcher matcher = pattern.matcher(text.substring(0, i));
            if (!matcher.matches() && !matcher.hitEnd()) {
                return i - 1;
            }
        }
        return pattern.matcher(text).matches() ? -1 : text.length();
    }

    int heap() {
        String text = tape;
        tape = "";
        int fault = fault(HEAP, text);
        Matcher numbers = NUMBER.matcher(fault < 0 ? text : text.substring(0, fault));
        while (numbers.find()) {
            String number = numbers.group(1).replaceFirst("^0+", "");
            if (number.isEmpty() || number.length() > 2) {
                return -20 - numbers.start(1);
            }
        }
        if (fault >= 0) {
            return -20 - fault;
        }
        now.pieces.clear();
        now.bag.clear();
        now.places.forEach(List::clear);
        for (String told : text.replace(" ", "").split(",")) {
            Matcher m = Pattern.compile("([cklr])0*([0-9]+)(t([0-3]))?(@([0-5]))?").matcher(told);
            if (!m.matches()) {
                throw new IllegalStateException(told);
            }
            piece("cklr".indexOf(m.group(1)), Integer.parseInt(m.group(2)),
                m.group(4) == null ? 0 : Integer.parseInt(m.group(4)),
                m.group(6) == null ? 6 : Integer.parseInt(m.group(6)));
        }
        return now.pieces.size();
    }

    int night() {
        String text = tape;
        tape = "";
        StringBuilder letters = new StringBuilder("[");
        for (int i = 0; i < now.pieces.size(); i++) {
            letters.append((char) ('a' + i));
        }
        String letter = letters.length() == 1 ? "[^\\x00-\\xff]" : letters + "]";
        String act = " *(?:l *[0-5]|d *" + letter + " *> *[0-5]|s *[0-5] *= *" + letter + "|p *(?:0 *> *[1-5]|"
            + "1 *> *[02-5]|2 *> *[013-5]|3 *> *[0-245]|4 *> *[0-35]|5 *> *[0-4])) *";
        int fault = fault(Pattern.compile(act + "(?:;" + act + ")*"), text);
        if (fault >= 0) {
            return -20 - fault;
        }
        int done = 0;
        for (String told : text.replace(" ", "").split(";")) {
            int how = "ldsp".indexOf(told.charAt(0));
            int code = switch (how) {
                case 0 -> 100 * (told.charAt(1) - '0');
                case 1 -> 1000 + 100 * (told.charAt(3) - '0') + told.charAt(1) - 'a';
                case 2 -> 2000 + 100 * (told.charAt(1) - '0') + told.charAt(3) - 'a';
                default -> 3000 + 100 * (told.charAt(1) - '0') + told.charAt(3) - '0';
            };
            if (act(code) != 0) {
                return done;
            }
            done++;
        }
        return done;
    }

    int count(int what) {
        if (!in(what, 0, 5)) {
            return BAD;
        }
        int lie = now.places.stream().mapToInt(List::size).sum();
        int weigh = now.places.stream().mapToInt(now::load).sum();
        return new int[] {now.pieces.size(), now.bag.size(), now.pieces.size() - lie - now.bag.size(), now.awake, weigh,
            now.load(now.bag)}[what];
    }

    private int act(int code) {
        State then = now.behind(code);
        if (then == null) {
            return NOT;
        }
        if (now.feels(then)) {
            now.wake();
            return FULL;
        }
        now = then;
        return 0;
    }

    int lift(int place) {
        if (!in(place, 0, 5)) {
            return BAD;
        }
        int top = now.top(place);
        int answer = act(100 * place);
        return answer == 0 ? top : answer;
    }

    int lay(int piece, int place) {
        if (!isPiece(piece) || !in(place, 0, 5)) {
            return BAD;
        }
        int answer = act(1000 + 100 * place + piece);
        return answer == 0 ? now.load(now.places.get(place)) : answer;
    }

    int swap(int place, int piece) {
        if (!isPiece(piece) || !in(place, 0, 5)) {
            return BAD;
        }
        int top = now.top(place);
        int answer = act(2000 + 100 * place + piece);
        return answer == 0 ? top : answer;
    }

    int push(int from, int to) {
        if (!in(from, 0, 5) || !in(to, 0, 5) || from == to) {
            return BAD;
        }
        int top = now.top(from);
        int answer = act(3000 + 100 * from + to);
        return answer == 0 ? top : answer;
    }

    int turn() {
        State then = new State(now);
        int lie = 0;
        for (int p = 0; p < 6; p++) {
            List<Integer> row = then.places.get(p);
            row.clear();
            for (Integer piece : now.places.get(5 - p)) {
                row.add(0, piece);
                lie++;
            }
        }
        now = then;
        return lie;
    }

    int had(int piece, int i) {
        if (!isPiece(piece) || !in(i, -1, 2)) {
            return BAD;
        }
        if (now.placeOf(piece) == 7) {
            return NOT;
        }
        for (int acts = 0; acts <= 3; acts++) {
            List<Integer> row = firstRow(now, piece, acts);
            if (row != null) {
                return i < 0 ? acts : i < acts ? row.get(i) : NONE;
            }
        }
        return NONE;
    }

    private static List<Integer> firstRow(State state, int piece, int acts) {
        if (acts == 0) {
            return state.bag.contains(piece) ? new ArrayList<>() : null;
        }
        // Only a TOP comes into THE BAG: without this the rows of three acts are too many to look at.
        int place = state.placeOf(piece);
        if (acts == 1 && place < 6 && state.top(place) != piece) {
            return null;
        }
        for (int code = 0; code < 3600; code++) {
            int how = code / 1000, where = code / 100 % 10, other = code % 100;
            boolean is = where < 6 && (how == 0 ? other == 0 : how == 3 ? other < 6 && other != where : other < 12);
            State then = is ? state.behind(code) : null;
            if (then != null && !state.feels(then)) {
                List<Integer> row = firstRow(then, piece, acts - 1);
                if (row != null) {
                    row.add(0, code);
                    return row;
                }
            }
        }
        return null;
    }

    int under(int town) {
        if (!in(town, 0, 3)) {
            return BAD;
        }
        int pairs = 0;
        for (List<Integer> row : now.places) {
            for (int a = 0; a < row.size(); a++) {
                for (int b = a + 1; b < row.size(); b++) {
                    int low = now.pieces.get(row.get(a)).owner(), high = now.pieces.get(row.get(b)).owner();
                    pairs += low == town && high != town && high != 4 ? 1 : 0;
                }
            }
        }
        return pairs;
    }

    int own() {
        int fewest = Integer.MAX_VALUE;
        for (int given = 0; given < 4096; given++) {
            int set = 0, needed = 0, astray = 0;
            for (int p = 0; p < 6; p++) {
                int has = given >> 2 * p & 3;
                set |= 1 << has;
                for (int piece : now.places.get(p)) {
                    int owner = now.pieces.get(piece).owner();
                    needed |= owner < 4 ? 1 << owner : 0;
                    astray += owner < 4 && owner != has ? 1 : 0;
                }
            }
            if ((set & needed) == needed) {
                fewest = Math.min(fewest, astray);
            }
        }
        return fewest;
    }

    private static int part(long above, long below, int part) {
        long common = java.math.BigInteger.valueOf(above).gcd(java.math.BigInteger.valueOf(below)).longValue();
        return (int) ((part == 0 ? above : below) / common);
    }

    int odds(int place, int change, int n, int q, int part) {
        if (!in(place, 0, 5) || !in(change, 0, 99) || !in(n, 1, 6) || !in(q, 0, 8) || !in(part, 0, 1)) {
            return BAD;
        }
        long above = 1, below = 1;
        for (int i = 0; i < n; i++) {
            above *= change > now.senses[place] ? 8 - q : 1;
            below *= change > now.senses[place] ? 8 : 1;
        }
        return part(above, below, part);
    }

    int share(int town, int set, int part) {
        if (!in(town, 0, 3) || !in(set, 0, 15) || !in(part, 0, 1) || (set >> town & 1) == 0) {
            return BAD;
        }
        int its = 0, common = 0;
        for (int piece : now.bag) {
            Piece p = now.pieces.get(piece);
            if (p.owner() == town) {
                its += p.weighs();
            } else if (p.owner() == 4 || (set >> p.owner() & 1) == 0) {
                common += p.weighs();
            }
        }
        int there = Integer.bitCount(set);
        return part((long) its * there + common, there, part);
    }

    int image() {
        image = new State(now);
        return 1;
    }

    int restore() {
        if (image == null) {
            return NONE;
        }
        now = new State(image);
        return 1;
    }

    private int refusal(int sheet, int lane, long from, long n) {
        if (sheets[sheet] == null) {
            return NULL;
        }
        if (lanes[sheet] != lane) {
            return CAST;
        }
        return from < 0 || from + n > sheets[sheet].length ? INDEX : 0;
    }

    int dents(int sheet, int lane, int from, int what) {
        if (!in(sheet, 0, 3) || !in(lane, 0, 2) || !in(what, 0, 1)) {
            return BAD;
        }
        int refused = refusal(sheet, lane, from, 6);
        if (refused != 0) {
            return refused;
        }
        int sets = 0, first = -1;
        for (int set = 0; set < 1 << now.pieces.size(); set++) {
            long[] gone = new long[8];
            for (int p = 0; p < now.pieces.size(); p++) {
                if ((set >> p & 1) == 1) {
                    gone[now.placeOf(p)] += now.pieces.get(p).weighs();
                }
            }
            boolean so = gone[6] == 0 && gone[7] == 0;
            for (int p = 0; p < 6; p++) {
                so &= gone[p] == sheets[sheet][from + p];
            }
            if (so) {
                sets++;
                first = first < 0 ? set : first;
            }
        }
        return what == 0 ? sets : sets > 0 ? first : NONE;
    }

    int tried(int sheet, int lane, int from, int n, int what) {
        if (!in(sheet, 0, 3) || !in(lane, 0, 2) || !in(n, 1, 8) || !in(what, 0, 2)) {
            return BAD;
        }
        int refused = refusal(sheet, lane, from, 2L * n);
        if (refused != 0) {
            return refused;
        }
        List<Integer> senses = new ArrayList<>();
        for (int s = 0; s < 100; s++) {
            boolean so = true;
            for (int i = 0; i < n; i++) {
                long change = sheets[sheet][from + 2 * i], felt = sheets[sheet][from + 2 * i + 1];
                if (!in(change, 0, 99) || !in(felt, 0, 1)) {
                    return NOT;
                }
                so &= change > s == (felt == 1);
            }
            if (so) {
                senses.add(s);
            }
        }
        if (what < 2) {
            return senses.isEmpty() ? NONE : senses.get(what == 0 ? 0 : senses.size() - 1);
        }
        int next = NONE, least = Integer.MAX_VALUE;
        for (int c = 0; c < 100 && senses.size() > 1; c++) {
            int change = c;
            int felt = (int) senses.stream().filter(s -> change > s).count();
            int left = Math.max(felt, senses.size() - felt);
            if (left < least) {
                least = left;
                next = c;
            }
        }
        return next;
    }

    private static long held(int lane, long v) {
        return lane == 0 ? (byte) v : lane == 1 ? (int) v : v;
    }

    int film(int sheet, int lane, int from) {
        if (!in(sheet, 0, 3) || !in(lane, 0, 2)) {
            return BAD;
        }
        int refused = refusal(sheet, lane, from, 6);
        for (int p = 0; p < 6 && refused == 0; p++) {
            sheets[sheet][from + p] = held(lane, now.load(now.places.get(p)));
        }
        return refused == 0 ? 6 : refused;
    }

    int sheet(int sheet, int lane, int n) {
        if (!in(sheet, 0, 3) || !in(lane, 0, 2) || n > 24) {
            return BAD;
        }
        if (n < 0) {
            return SIZE;
        }
        sheets[sheet] = new long[n];
        lanes[sheet] = lane;
        return n;
    }

    int drop(int sheet) {
        if (!in(sheet, 0, 3)) {
            return BAD;
        }
        int answer = sheets[sheet] == null ? NULL : sheets[sheet].length;
        sheets[sheet] = null;
        return answer;
    }

    int item(int sheet, int lane, int i, long v) {
        if (!in(sheet, 0, 3) || !in(lane, 0, 2)) {
            return BAD;
        }
        int refused = refusal(sheet, lane, i, 1);
        if (refused == 0) {
            sheets[sheet][i] = held(lane, v);
        }
        return refused == 0 ? 1 : refused;
    }

    int copy(int from, int i, int to, int j, int n) {
        if (!in(from, 0, 3) || !in(to, 0, 3)) {
            return BAD;
        }
        if (sheets[from] == null || sheets[to] == null) {
            return NULL;
        }
        if (lanes[from] != lanes[to]) {
            return CAST;
        }
        if (i < 0 || j < 0 || n < 0 || (long) i + n > sheets[from].length || (long) j + n > sheets[to].length) {
            return INDEX;
        }
        long[] taken = sheets[from].clone();
        System.arraycopy(taken, i, sheets[to], j, n);
        return n;
    }
}
