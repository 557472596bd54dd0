/**
 * Every call with numbers from all over an int (and a long), one and two of them at a time, in an empty, a used and a
 * full object, and texts spoilt at each byte, against PlainHeap.
 */
final class WildTest {
    private static final Check check = new Check("WildTest");
    private static final int LEAST = Integer.MIN_VALUE, MOST = Integer.MAX_VALUE;
    private static final int[] WILD = {LEAST, LEAST + 1, LEAST + 6, LEAST + 24, -2147483625, -65536, -257, -256, -129, -128,
        -101, -100, -33, -32, -13, -12, -7, -6, -2, -1, 0, 1, 2, 3, 4, 5, 6, 7, 8, 9, 10, 11, 12, 13, 15, 16, 17, 18, 19, 23,
        24, 25, 26, 31, 32, 33, 47, 48, 63, 64, 98, 99, 100, 101, 127, 128, 255, 256, 257, 1000, 3501, 65535, 65536, 42949673,
        1 << 30, MOST - 24, MOST - 23, MOST - 16, MOST - 6, MOST - 5, MOST - 1, MOST};
    private static final int CALLS = 27;

    public static void main(String[] args) {
        for (int state = 0; state < 4; state++) {
            for (int call = 0; call < CALLS; call++) {
                wildly(state, call);
            }
        }
        spoilt("c5t1@2,k06,r1", true);
        spoilt("l12@5,c9t3,k99t0@0", true);
        spoilt(" k 1 t 2 @ 3 , r 4 ", true);
        spoilt("l0;db>1;s2=a;p3>4", false);
        spoilt("p0>1;p1>0;dc>5;l5", false);
        spoilt(" s 0 = c ; d a > 1 ", false);
        check.done();
    }

    /** A new object; a used one; twelve pieces in places; twelve in the bag. */
    private static Pair made(int state) {
        Pair pair = new Pair(check);
        if (state == 0) {
            return pair;
        }
        pair.write(state == 1 ? "c3@0,k1@0,c2t1@1,r3t2@3,c9t3@5,l7,r1,k20t1,c1" : state == 2
            ? "c1@0,c2@1,c3t1@2,k1t2@3,r3t3@4,l1@5,c1@0,c1t1@1,k1t2@2,l2@3,r1t1@4,c3@5"
            : "c1,c2,c3t1,k1t2,r3t3,l1,c1,c1t1,k1t2,l2,r1t1,c3");
        pair.heap();
        if (state == 1) {
            pair.lift(5);
            pair.sense(3, 0);
            pair.image();
        }
        pair.sheet(0, 0, state == 1 ? 7 : 24);
        pair.sheet(1, 1, state == 1 ? 0 : 12);
        pair.sheet(2, 2, 24);
        pair.item(0, 0, 0, 3);
        pair.item(2, 2, 2, 3);
        pair.item(2, 2, 4, 7);
        pair.item(2, 2, 5, 1);
        pair.write(state == 3 ? "~".repeat(117) : "c4@2");
        return pair;
    }

    /** Rows of numbers that a call takes, for each of them: one is changed, then two. */
    private static int[][] rows(int call) {
        switch (call) {
            case 0:
                return new int[][] {{0, 5, 1, 2}, {1, 99, 3, 6}};
            case 1:
                return new int[][] {{0, 3}, {8, 1}};
            case 2:
                return new int[][] {{0, 0}, {5, 3}};
            case 3:
                return new int[][] {{0, 50}};
            case 4, 5, 6:
                return new int[][] {{'c', 1}, {-1, 8}, {0x63636363, 4}};
            case 7, 8, 9, 10:
                return new int[][] {{0}, {3}};
            case 11:
                return new int[][] {{5, 1}, {6, 0}};
            case 12:
                return new int[][] {{0, 6}, {5, 7}};
            case 13:
                return new int[][] {{0, 1}, {3, 4}};
            case 14:
                return new int[][] {{0, -1}, {3, 0}, {8, 2}};
            case 15:
                return new int[][] {{0, 4, 2, 3, 0}, {3, 99, 6, 8, 1}, {5, 0, 1, 0, 1}};
            case 16:
                return new int[][] {{0, 15, 0}, {3, 8, 1}};
            case 17:
                return new int[][] {{0, 0, 0, 0}, {2, 2, 18, 1}, {3, 1, 0, 0}};
            case 18:
                return new int[][] {{2, 2, 0, 1, 0}, {2, 2, 2, 2, 2}, {2, 2, 8, 8, 1}, {1, 1, 0, 1, 0}};
            case 19:
                return new int[][] {{0, 0, 1}, {2, 2, 18}, {3, 0, 0}};
            case 20:
                return new int[][] {{0, 0, 6}, {3, 2, 24}};
            case 21:
                return new int[][] {{0, 0, 6, 7}, {2, 2, 23, -1}, {3, 0, 0, 0}};
            case 22:
                return new int[][] {{2, 0, 2, 3, 5}, {0, 6, 0, 0, 1}, {2, 24, 2, 24, 0}, {0, 0, 2, 0, 1}};
            case 23:
                return new int[][] {{0}, {2}};
            case 24:
                return new int[][] {{0, 5}};
            default:
                return new int[][] {{0}};
        }
    }

    private static void wildly(int state, int call) {
        Pair pair = made(state);
        for (int[] row : rows(call)) {
            for (int i = 0; i < row.length; i++) {
                for (int j = i; j < row.length; j++) {
                    for (int one : WILD) {
                        int[] numbers = row.clone();
                        numbers[i] = one;
                        for (int k = 0; k < (i == j ? 1 : WILD.length); k++) {
                            numbers[j] = i == j ? one : WILD[k];
                            pair = pair.left() > 200 ? pair : looked(pair, state);
                            make(pair, call, numbers);
                        }
                    }
                }
            }
        }
        looked(pair, state);
    }

    /** What a used up one is like in the end; a new one. */
    private static Pair looked(Pair pair, int state) {
        pair.look();
        return made(state);
    }

    private static void make(Pair pair, int call, int[] n) {
        switch (call) {
            case 0 -> pair.piece(n[0], n[1], n[2], n[3]);
            case 1 -> pair.told(n[0], n[1]);
            case 2 -> pair.of(n[0], n[1]);
            case 3 -> pair.sense(n[0], n[1]);
            case 4 -> pair.type(n[0], n[1]);
            case 5 -> pair.type((long) n[0] << 32 | 0x63636363, n[1]);
            case 6 -> pair.type(n[0] * 0x0101010101010101L, n[1]);
            case 7 -> pair.count(n[0]);
            case 8 -> pair.under(n[0]);
            case 9 -> pair.lift(n[0]);
            case 10 -> pair.drop(n[0]);
            case 11 -> pair.lay(n[0], n[1]);
            case 12 -> pair.swap(n[0], n[1]);
            case 13 -> pair.push(n[0], n[1]);
            case 14 -> had(pair, n[0], n[1]);
            case 15 -> pair.odds(n[0], n[1], n[2], n[3], n[4]);
            case 16 -> pair.share(n[0], n[1], n[2]);
            case 17 -> pair.dents(n[0], n[1], n[2], n[3]);
            case 18 -> pair.tried(n[0], n[1], n[2], n[3], n[4]);
            case 19 -> pair.film(n[0], n[1], n[2]);
            case 20 -> pair.sheet(n[0], n[1], n[2]);
            case 21 -> pair.item(n[0], n[1], n[2], n[3] * 0x0001000100010001L);
            case 22 -> pair.copy(n[0], n[1], n[2], n[3], n[4]);
            case 23 -> {
                pair.item(0, 0, 0, n[0]);
                pair.dents(0, 0, 0, 0);
            }
            case 24 -> {
                pair.item(2, 2, 0, n[0]);
                pair.item(2, 2, 1, n[1]);
                pair.tried(2, 2, 0, 1, 0);
            }
            case 25 -> {
                pair.restore();
                pair.turn();
            }
            default -> {
                pair.image();
                pair.sense(n[0], n[0]);
                pair.restore();
                pair.own();
            }
        }
    }

    /** The plain search is slow: only what is refused and what is near. */
    private static void had(Pair pair, int piece, int i) {
        if (pair.plain.told(piece, 0) < 0 || i < -1 || i > 2 || pair.plain.now.pieces.size() < 10) {
            pair.had(piece, i);
        }
    }

    /** A text with each byte in place of each, ahead of each, and without each; each beginning of it. */
    private static void spoilt(String text, boolean heap) {
        Pair pair = made(1);
        pair.night();
        for (int i = 0; i <= text.length(); i++) {
            for (char sign = ' '; sign <= '~'; sign++) {
                String head = text.substring(0, i);
                pair = read(pair, head + sign + text.substring(i), heap);
                pair = read(pair, head + sign + text.substring(Math.min(i + 1, text.length())), heap);
                pair = read(pair, head + sign, heap);
            }
            pair = read(pair, text.substring(0, i), heap);
            pair = read(pair, text.substring(i), heap);
            pair = read(pair, text.substring(0, i) + text.substring(Math.min(i + 1, text.length())), heap);
        }
    }

    private static Pair read(Pair pair, String text, boolean heap) {
        Pair used = pair.left() > 150 ? pair : looked(pair, 1);
        if (used != pair) {
            // What made types is no NIGHT: the tape is empty then, and the pieces stay.
            used.night();
        }
        used.write(text);
        if (heap) {
            used.heap();
        } else {
            used.night();
            used.count(3);
            used.restore();
        }
        return used;
    }
}
