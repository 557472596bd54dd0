import java.util.Random;

/** Long runs of calls, the same ones each time, against PlainHeap. */
final class ModelTest {
    private static final int RUNS = 300, CALLS = 500;
    private static final Check check = new Check("ModelTest");
    private static final int[] ODD = {-1, 6, 7, 12, 16, 100, Integer.MIN_VALUE, Integer.MAX_VALUE, -13, 25, 2147483642};
    private static Random random;
    private static WormHeap x;
    private static PlainHeap y;
    /** How many pieces a run has at most, and how deep THE WORM sleeps in it. */
    private static int pieces, deep, heavy;

    public static void main(String[] args) {
        for (int run = 0; run < RUNS && !check.anyWrong(); run++) {
            random = new Random(run);
            x = new WormHeap();
            y = new PlainHeap();
            pieces = run % 3 == 0 ? 12 : 3 + random.nextInt(6);
            deep = run % 2 == 0 ? 10 : 100;
            heavy = run % 5 == 0 ? 99 : 12;
            for (int i = 0; i < CALLS && !check.anyWrong(); i++) {
                call("run " + run + " call " + i);
            }
        }
        check.done();
    }

    /** A number mostly from 0 below a bound, now and then an odd one. */
    private static int of(int bound) {
        return random.nextInt(40) == 0 ? ODD[random.nextInt(ODD.length)] : random.nextInt(bound);
    }

    private static void call(String at) {
        int which = random.nextInt(15);
        if (which < 2) {
            write(at);
        } else if (which < 5) {
            ask(at);
        } else if (which < 8) {
            sheets(at);
        } else {
            act(at);
        }
        all(at);
    }

    private static void act(String at) {
        int a = of(6), b = of(6), p = of(12), q = of(4);
        switch (random.nextInt(14)) {
            case 0, 1 -> check.due(at + " lift " + a, y.lift(a), x.lift(a));
            case 2, 3 -> check.due(at + " lay " + p + " " + a, y.lay(p, a), x.lay(p, a));
            case 4, 5 -> check.due(at + " swap " + a + " " + p, y.swap(a, p), x.swap(a, p));
            case 6, 7 -> check.due(at + " push " + a + " " + b, y.push(a, b), x.push(a, b));
            case 8 -> check.due(at + " turn", y.turn(), x.turn());
            case 9 -> {
                int v = of(deep);
                check.due(at + " sense " + a + " " + v, y.sense(a, v), x.sense(a, v));
            }
            case 10 -> check.due(at + " image", random.nextInt(3) > 0 ? 1 : y.image() + x.image() - 1, 1);
            case 11 -> {
                if (random.nextInt(3) == 0) {
                    check.due(at + " restore", y.restore(), x.restore());
                }
            }
            default -> {
                int w = 1 + of(heavy), place = of(7);
                if (y.now.pieces.size() < pieces || pieces == 12) {
                    check.due(at + " piece", y.piece(q, w, b, place), x.piece(q, w, b, place));
                }
            }
        }
    }

    private static void ask(String at) {
        int a = of(6), p = of(12), i = of(4) - 1;
        switch (random.nextInt(4)) {
            case 0 -> {
                // The plain search looks at every row: in 3 acts of many pieces there are too many.
                if (y.now.pieces.size() <= 7 && deep == 10) {
                    check.due(at + " had " + p + " " + i, y.had(p, i), x.had(p, i));
                } else if (x.had(p, -1) >= 0 && x.had(p, -1) < 3) {
                    check.due(at + " had " + p + " " + i, y.had(p, i), x.had(p, i));
                }
            }
            case 1 -> {
                int change = of(100), n = of(7), q = of(9), part = of(2);
                check.due(at + " odds", y.odds(a, change, n, q, part), x.odds(a, change, n, q, part));
            }
            case 2 -> {
                int town = of(4), set = of(16), part = of(2);
                check.due(at + " share", y.share(town, set, part), x.share(town, set, part));
            }
            default -> {
                check.due(at + " own", y.own(), x.own());
                check.due(at + " under " + a, y.under(a), x.under(a));
            }
        }
    }

    private static void sheets(String at) {
        int s = of(4), t = of(4), from = of(12), i = of(24);
        int lane = random.nextInt(6) > 0 && s >= 0 && s < 4 ? y.lanes[s] : of(3);
        switch (random.nextInt(9)) {
            case 0 -> {
                int n = random.nextInt(3) > 0 ? 24 : of(25);
                check.due(at + " sheet", y.sheet(s, lane, n), x.sheet(s, lane, n));
            }
            case 1 -> {
                if (random.nextInt(4) == 0) {
                    check.due(at + " drop", y.drop(s), x.drop(s));
                }
            }
            case 2, 3 -> {
                long v = random.nextInt(4) == 0 ? random.nextLong() : random.nextInt(5) < 2 ? of(100) : of(2);
                check.due(at + " item", y.item(s, lane, i, v), x.item(s, lane, i, v));
            }
            case 4 -> check.due(at + " film", y.film(s, lane, from), x.film(s, lane, from));
            case 5 -> {
                int n = of(12);
                check.due(at + " copy", y.copy(s, i, t, from, n), x.copy(s, i, t, from, n));
            }
            case 6 -> {
                int n = of(9), what = of(3);
                tries(s, lane, from, n);
                check.due(at + " tried", y.tried(s, lane, from, n, what), x.tried(s, lane, from, n, what));
            }
            default -> {
                int what = of(2);
                dent(s, lane, from);
                check.due(at + " dents", y.dents(s, lane, from, what), x.dents(s, lane, from, what));
            }
        }
    }

    /** Makes it likely that there are dents by pieces that lie there. */
    private static void dent(int s, int lane, int from) {
        long[] gone = new long[6];
        for (int p = 0; p < y.now.pieces.size(); p++) {
            int place = y.told(p, 3);
            if (place < 6 && random.nextBoolean()) {
                gone[place] += y.told(p, 1);
            }
        }
        for (int p = 0; p < 6 && from < 100 && random.nextInt(9) > 0; p++) {
            y.item(s, lane, from + p, gone[p]);
            x.item(s, lane, from + p, gone[p]);
        }
    }

    /** Makes it likely that one sense answered as told. */
    private static void tries(int s, int lane, int from, int n) {
        int sense = random.nextInt(100);
        for (int i = 0; i < n && i < 9 && from < 100; i++) {
            int change = of(100);
            long felt = random.nextInt(20) == 0 ? of(2) : change > sense ? 1 : 0;
            y.item(s, lane, from + 2 * i, change);
            x.item(s, lane, from + 2 * i, change);
            y.item(s, lane, from + 2 * i + 1, felt);
            x.item(s, lane, from + 2 * i + 1, felt);
        }
    }

    private static void write(String at) {
        boolean heap = random.nextInt(4) == 0;
        StringBuilder text = new StringBuilder(heap ? heapText() : nightText());
        while (random.nextInt(3) == 0) {
            spoil(text, heap);
        }
        for (int i = 0; i < text.length(); i += 8) {
            String part = text.substring(i, Math.min(text.length(), i + 8));
            check.due(at + " type", y.type(Check.word(part), part.length()), x.type(Check.word(part), part.length()));
        }
        if (random.nextInt(10) == 0) {
            long w = random.nextLong();
            int n = of(9);
            check.due(at + " type", y.type(w, n), x.type(w, n));
        }
        if (heap == random.nextInt(20) > 0) {
            check.due(at + " heap " + text, y.heap(), x.heap());
        } else {
            check.due(at + " night " + text, y.night(), x.night());
        }
    }

    private static String heapText() {
        StringBuilder text = new StringBuilder();
        int n = 1 + random.nextInt(pieces);
        for (int i = 0; i < n; i++) {
            text.append(i > 0 ? "," : "").append("cklr".charAt(random.nextInt(4)));
            text.append(random.nextInt(9) == 0 ? "0" : "").append(1 + random.nextInt(heavy));
            text.append(random.nextBoolean() ? "t" + random.nextInt(4) : "");
            text.append(random.nextInt(3) > 0 ? "@" + random.nextInt(6) : "");
        }
        return text.toString();
    }

    private static String nightText() {
        StringBuilder text = new StringBuilder();
        int n = 1 + random.nextInt(6);
        int letters = random.nextInt(9) == 0 ? 13 : Math.max(1, y.now.pieces.size());
        for (int i = 0; i < n; i++) {
            char letter = (char) ('a' + random.nextInt(letters));
            int place = random.nextInt(6), to = random.nextInt(6);
            text.append(i > 0 ? ";" : "").append(switch (random.nextInt(4)) {
                case 0 -> "l" + place;
                case 1 -> "d" + letter + ">" + place;
                case 2 -> "s" + place + "=" + letter;
                default -> "p" + place + ">" + (to == place && random.nextInt(9) > 0 ? (to + 1) % 6 : to);
            });
        }
        return text.toString();
    }

    private static void spoil(StringBuilder text, boolean heap) {
        int at = random.nextInt(text.length() + 1);
        String signs = heap ? "cklrt@,0123456789 ;A~" : "ldsp>=;0123456789abcklm ,A";
        switch (random.nextInt(4)) {
            case 0 -> text.insert(at, ' ');
            case 1 -> text.insert(at, signs.charAt(random.nextInt(signs.length())));
            case 2 -> text.setLength(at);
            default -> {
                if (at < text.length()) {
                    text.deleteCharAt(at);
                }
            }
        }
    }

    /** All that can be asked without a search. */
    private static void all(String at) {
        for (int p = 0; p < 12; p++) {
            for (int what = 0; what < 5; what++) {
                check.due(at + " told " + p + " " + what, y.told(p, what), x.told(p, what));
            }
        }
        for (int p = 0; p < 6; p++) {
            for (int what = 0; what < 4; what++) {
                check.due(at + " of " + p + " " + what, y.of(p, what), x.of(p, what));
            }
            check.due(at + " count " + p, y.count(p), x.count(p));
        }
        for (int town = 0; town < 4; town++) {
            check.due(at + " under " + town, y.under(town), x.under(town));
        }
    }
}
