import java.util.Random;

/** Runs of calls, the same ones each time, against PlainHeap; no object gets more calls than the document tells of. */
final class ModelTest {
    private static final int RUNS = 4000, LOOK = 104, STEP = 60;
    private static final Check check = new Check("ModelTest");
    private static final int[] ODD = {-1, 6, 7, 12, 16, 100, Integer.MIN_VALUE, Integer.MAX_VALUE, -13, 25, 2147483642};
    private static Random random;
    private static Pair pair;
    /** How many pieces a run has at most, and how deep THE WORM sleeps in it. */
    private static int pieces, deep, heavy;

    public static void main(String[] args) {
        for (int run = 0; run < RUNS && !check.anyWrong(); run++) {
            random = new Random(run);
            pair = new Pair(check);
            pieces = run % 3 == 0 ? 12 : 3 + random.nextInt(6);
            deep = run % 2 == 0 ? 10 : 100;
            heavy = run % 5 == 0 ? 99 : 12;
            while (pair.left() >= LOOK + STEP && !check.anyWrong()) {
                call();
            }
            pair.look();
        }
        check.done();
    }

    /** A number mostly from 0 below a bound, now and then an odd one. */
    private static int of(int bound) {
        return random.nextInt(40) == 0 ? ODD[random.nextInt(ODD.length)] : random.nextInt(bound);
    }

    private static void call() {
        int which = random.nextInt(16);
        if (which < 3) {
            write();
        } else if (which < 6) {
            ask();
        } else if (which < 9) {
            sheets();
        } else {
            act();
        }
        glance();
    }

    /** Some of what can be asked, wherever an act may have changed it. */
    private static void glance() {
        for (int i = 0; i < 2; i++) {
            pair.told(random.nextInt(12), random.nextInt(5));
            pair.of(random.nextInt(6), random.nextInt(4));
        }
        pair.count(random.nextInt(6));
    }

    private static void act() {
        int a = of(6), b = of(6), p = of(12), q = of(4);
        switch (random.nextInt(14)) {
            case 0, 1 -> pair.lift(a);
            case 2, 3 -> pair.lay(p, a);
            case 4, 5 -> pair.swap(a, p);
            case 6, 7 -> pair.push(a, b);
            case 8 -> pair.turn();
            case 9 -> pair.sense(a, of(deep));
            case 10 -> {
                if (random.nextInt(2) == 0) {
                    pair.image();
                }
            }
            case 11 -> {
                if (random.nextInt(2) == 0) {
                    pair.restore();
                }
            }
            default -> {
                int w = 1 + of(heavy), place = of(7);
                if (pair.plain.now.pieces.size() < pieces || pieces == 12) {
                    pair.piece(q, w, b, place);
                }
            }
        }
    }

    private static void ask() {
        switch (random.nextInt(4)) {
            case 0 -> pair.had(of(12), of(4) - 1);
            case 1 -> pair.odds(of(6), of(100), of(7), of(9), of(2));
            case 2 -> pair.share(of(4), of(16), of(2));
            default -> {
                pair.own();
                pair.under(of(4));
            }
        }
    }

    private static void sheets() {
        int s = of(4), t = of(4), from = of(12), i = of(24);
        int lane = random.nextInt(6) > 0 && s >= 0 && s < 4 ? pair.plain.lanes[s] : of(3);
        switch (random.nextInt(9)) {
            case 0 -> pair.sheet(s, lane, random.nextInt(3) > 0 ? 24 : of(25));
            case 1 -> {
                if (random.nextInt(4) == 0) {
                    pair.drop(s);
                }
            }
            case 2, 3 -> pair.item(s, lane, i,
                random.nextInt(4) == 0 ? random.nextLong() : random.nextInt(5) < 2 ? of(100) : of(2));
            case 4 -> pair.film(s, lane, from);
            case 5 -> pair.copy(s, i, t, from, of(12));
            case 6 -> {
                int n = of(9);
                tries(s, lane, from, n);
                pair.tried(s, lane, from, n, of(3));
            }
            default -> {
                dent(s, lane, from);
                pair.dents(s, lane, from, of(2));
            }
        }
    }

    /** Makes it likely that there are dents by pieces that lie there. */
    private static void dent(int s, int lane, int from) {
        long[] gone = new long[6];
        for (int p = 0; p < pair.plain.now.pieces.size(); p++) {
            int place = pair.plain.told(p, 3);
            if (place < 6 && random.nextBoolean()) {
                gone[place] += pair.plain.told(p, 1);
            }
        }
        for (int p = 0; p < 6 && from < 100 && random.nextInt(9) > 0; p++) {
            pair.item(s, lane, from + p, gone[p]);
        }
    }

    /** Makes it likely that one sense answered as told. */
    private static void tries(int s, int lane, int from, int n) {
        int sense = random.nextInt(100);
        for (int i = 0; i < n && i < 9 && from < 100; i++) {
            int change = of(100);
            long felt = random.nextInt(20) == 0 ? of(2) : change > sense ? 1 : 0;
            pair.item(s, lane, from + 2 * i, change);
            pair.item(s, lane, from + 2 * i + 1, felt);
        }
    }

    private static void write() {
        boolean heap = random.nextInt(4) == 0;
        StringBuilder text = new StringBuilder(heap ? heapText() : nightText());
        while (random.nextInt(3) == 0) {
            spoil(text, heap);
        }
        pair.write(text.toString());
        if (random.nextInt(10) == 0) {
            pair.type(random.nextLong(), of(9));
        }
        if (heap == random.nextInt(20) > 0) {
            pair.heap();
        } else {
            pair.night();
        }
    }

    private static String heapText() {
        StringBuilder text = new StringBuilder();
        int n = 1 + random.nextInt(pieces);
        for (int i = 0; i < n; i++) {
            text.append(i > 0 ? "," : "").append("cklr".charAt(random.nextInt(4)));
            text.append(random.nextInt(9) == 0 ? "0" : "").append(1 + random.nextInt(heavy));
            text.append(random.nextBoolean() ? "t" + random.nextInt(4) : "");
            text.append(random.nextInt(3) > 0 ? "@" + random.nextInt(6) : "");
        }
        return text.toString();
    }

    private static String nightText() {
        StringBuilder text = new StringBuilder();
        int n = 1 + random.nextInt(6);
        int letters = random.nextInt(9) == 0 ? 13 : Math.max(1, pair.plain.now.pieces.size());
        for (int i = 0; i < n; i++) {
            char letter = (char) ('a' + random.nextInt(letters));
            int place = random.nextInt(6), to = random.nextInt(6);
            text.append(i > 0 ? ";" : "").append(switch (random.nextInt(4)) {
                case 0 -> "l" + place;
                case 1 -> "d" + letter + ">" + place;
                case 2 -> "s" + place + "=" + letter;
                default -> "p" + place + ">" + (to == place && random.nextInt(9) > 0 ? (to + 1) % 6 : to);
            });
        }
        return text.toString();
    }

    private static void spoil(StringBuilder text, boolean heap) {
        int at = random.nextInt(text.length() + 1);
        String signs = heap ? "cklrt@,0123456789 ;A~" : "ldsp>=;0123456789abcklm ,A";
        switch (random.nextInt(4)) {
            case 0 -> text.insert(at, ' ');
            case 1 -> text.insert(at, signs.charAt(random.nextInt(signs.length())));
            case 2 -> text.setLength(at);
            default -> {
                if (at < text.length()) {
                    text.deleteCharAt(at);
                }
            }
        }
    }
}
