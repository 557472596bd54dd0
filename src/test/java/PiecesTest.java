/** Promises 1 to 9: a new object, pieces, places, the tape, heaps, nights, counts. */
final class PiecesTest {
    private static final int LEAST = Integer.MIN_VALUE, MOST = Integer.MAX_VALUE;
    private static final Check check = new Check("PiecesTest");

    public static void main(String[] args) {
        newObject();
        piece();
        told();
        of();
        sense();
        type();
        heap();
        heapFaults();
        night();
        nightFaults();
        count();
        check.done();
    }

    private static void newObject() {
        WormHeap x = new WormHeap();
        for (int place = 0; place < 6; place++) {
            check.due("1: load", 0, x.of(place, 0));
            check.due("1: pieces", 0, x.of(place, 1));
            check.due("1: sense", 3, x.of(place, 2));
            check.due("1: top", 12, x.of(place, 3));
        }
        for (int what = 0; what < 6; what++) {
            check.due("1: count", 0, x.count(what));
        }
        check.due("1: no image", WormHeap.NONE, x.restore());
        for (int sheet = 0; sheet < 4; sheet++) {
            check.due("1: no sheet", WormHeap.NULL, x.drop(sheet));
        }
        check.due("1: empty tape, first byte", 1, x.type('l', 1));
    }

    private static void piece() {
        WormHeap x = new WormHeap();
        int[][] wrong = {
            {-1, 1, 0, 0}, {4, 1, 0, 0}, {LEAST, 1, 0, 0}, {MOST, 1, 0, 0},
            {0, 0, 0, 0}, {0, 100, 0, 0}, {0, -1, 0, 0}, {0, LEAST, 0, 0}, {0, MOST, 0, 0},
            {0, 1, -1, 0}, {0, 1, 4, 0}, {2, 1, 4, 0}, {0, 1, LEAST, 0}, {0, 1, MOST, 0},
            {0, 1, 0, -1}, {0, 1, 0, 7}, {0, 1, 0, LEAST}, {0, 1, 0, MOST}};
        for (int[] w : wrong) {
            check.due("2: BAD", WormHeap.BAD, x.piece(w[0], w[1], w[2], w[3]));
        }
        check.due("2: none made", 0, x.count(0));
        for (int i = 0; i < 12; i++) {
            check.due("2: number", i, x.piece(i % 4, i % 2 == 0 ? 99 : 1, i % 4, i % 7));
        }
        check.due("2: unfelt", 0, x.count(3));
        check.due("2: FULL", WormHeap.FULL, x.piece(0, 1, 0, 0));
        check.due("2: BAD ahead of FULL", WormHeap.BAD, x.piece(0, 0, 0, 0));
        check.due("2: twelve", 12, x.count(0));
        check.due("2: on the first", 7, x.of(0, 3));
        check.due("2: in the bag", 6, x.told(6, 3));
    }

    private static void told() {
        WormHeap x = new WormHeap();
        x.piece(0, 7, 1, 2);
        x.piece(1, 7, 2, 2);
        x.piece(2, 7, 3, 2);
        x.piece(3, 7, 3, 6);
        int[][] due = {{0, 7, 1, 2, 2}, {1, 9, 2, 2, 1}, {2, 7, 4, 2, 0}, {3, 7, 3, 6, 0}};
        for (int piece = 0; piece < 4; piece++) {
            for (int what = 0; what < 5; what++) {
                check.due("3: told(" + piece + ", " + what + ")", due[piece][what], x.told(piece, what));
            }
            check.due("3: BAD", WormHeap.BAD, x.told(piece, 5));
            check.due("3: BAD", WormHeap.BAD, x.told(piece, -1));
            check.due("3: BAD", WormHeap.BAD, x.told(piece, MOST));
        }
        for (int piece : new int[] {-1, 4, 11, 12, LEAST, MOST}) {
            check.due("3: BAD", WormHeap.BAD, x.told(piece, 0));
        }
        x.piece(0, 1, 0, 6);
        check.due("3: felt", WormHeap.FULL, x.lift(2));
        check.due("3: eaten", 7, x.told(4, 3));
        check.due("3: eaten, off", 0, x.told(4, 4));
        check.due("3: eaten, weight", 1, x.told(4, 1));
    }

    private static void of() {
        WormHeap x = Check.made("c5@4,k5@4,l7@5,r8");
        int[][] due = {{12, 2, 3, 1}, {7, 1, 3, 2}, {0, 0, 3, 12}};
        for (int what = 0; what < 4; what++) {
            check.due("4: of(4)", due[0][what], x.of(4, what));
            check.due("4: of(5)", due[1][what], x.of(5, what));
            check.due("4: of(0)", due[2][what], x.of(0, what));
        }
        for (int w : new int[] {-1, 4, LEAST, MOST}) {
            check.due("4: BAD", WormHeap.BAD, x.of(0, w));
        }
        for (int w : new int[] {-1, 6, 7, LEAST, MOST}) {
            check.due("4: BAD", WormHeap.BAD, x.of(w, 0));
        }
    }

    private static void sense() {
        WormHeap x = new WormHeap();
        check.due("5: first", 3, x.sense(5, 0));
        check.due("5: before", 0, x.sense(5, 99));
        check.due("5: of", 99, x.of(5, 2));
        check.due("5: the others", 3, x.of(4, 2));
        for (int w : new int[] {-1, 100, LEAST, MOST}) {
            check.due("5: BAD", WormHeap.BAD, x.sense(5, w));
        }
        for (int w : new int[] {-1, 6, LEAST, MOST}) {
            check.due("5: BAD", WormHeap.BAD, x.sense(w, 1));
        }
        check.due("5: unchanged", 99, x.of(5, 2));
    }

    private static void type() {
        WormHeap x = new WormHeap();
        check.due("6: n", WormHeap.BAD, x.type('c', 0));
        check.due("6: n", WormHeap.BAD, x.type('c', 9));
        check.due("6: n", WormHeap.BAD, x.type(Check.word("cccccccc"), 9));
        check.due("6: n", WormHeap.BAD, x.type('c', -1));
        check.due("6: n", WormHeap.BAD, x.type('c', LEAST));
        check.due("6: n", WormHeap.BAD, x.type('c', MOST));
        check.due("6: a byte below", WormHeap.BAD, x.type(31, 1));
        check.due("6: a byte above", WormHeap.BAD, x.type(127, 1));
        check.due("6: a byte far above", WormHeap.BAD, x.type(255, 1));
        check.due("6: a byte that is 0", WormHeap.BAD, x.type('c', 2));
        check.due("6: the second byte", WormHeap.BAD, x.type('c' << 8 | 31, 2));
        check.due("6: all ones", WormHeap.BAD, x.type(-1, 8));
        check.due("6: highest byte told", WormHeap.BAD, x.type(Check.word("c1234567") | 1L << 63, 8));
        check.due("6: what is above is free", 1, x.type(-256L | 'c', 1));
        check.due("6: the highest first", 5, x.type(Check.word("12@3"), 4));
        check.due("6: as told", 1, x.heap());
        check.due("6: weight", 12, x.told(0, 1));
        check.due("6: place", 3, x.told(0, 3));
        for (int i = 1; i <= 15; i++) {
            check.due("6: eight", 8 * i, x.type(Check.word(i % 2 == 0 ? "        " : "~~~~~~~~"), 8));
        }
        check.due("6: FULL", WormHeap.FULL, x.type('c', 1));
        check.due("6: BAD ahead of FULL", WormHeap.BAD, x.type(0, 1));
        check.due("6: a fault", -20, x.heap());
        check.due("6: empty", 7, x.type(Check.word("       "), 7));
        for (int i = 2; i <= 16; i++) {
            Check.write(x, "       ");
        }
        check.due("6: seven left over", 119, x.type(Check.word("       "), 7));
        check.due("6: FULL changes nothing", WormHeap.FULL, x.type(Check.word("  "), 2));
        check.due("6: the last byte", 120, x.type(' ', 1));
        check.due("6: all are blanks", -140, x.night());
    }

    private static void heap() {
        WormHeap x = Check.made("c1@0,k1@0,l1t3@0,r1t3@0,c01t1,k099t2@5,l0099,r00000000000000000001t0@0");
        int[][] due = {{0, 1, 0, 0, 4}, {1, 3, 0, 0, 3}, {2, 1, 4, 0, 2}, {3, 1, 3, 0, 1}, {0, 1, 1, 6, 0},
            {1, 101, 2, 5, 0}, {2, 99, 4, 6, 0}, {3, 1, 0, 0, 0}};
        for (int piece = 0; piece < due.length; piece++) {
            for (int what = 0; what < 5; what++) {
                check.due("7: told(" + piece + ", " + what + ")", due[piece][what], x.told(piece, what));
            }
        }
        x.sense(2, 9);
        x.lift(5);
        x.image();
        x.sheet(1, 1, 3);
        check.due("7: twelve", 12, Check.heap(x, "c1,c1,c1,c1,c1,c1,c1,c1,c1,c1,c1,c1 "));
        check.due("7: in place of all", 12, x.count(0));
        check.due("7: none eaten now", 0, x.count(2));
        check.due("7: places are empty", 0, x.count(4));
        check.due("7: tops are gone", 12, x.of(0, 3));
        check.due("7: senses stay", 9, x.of(2, 2));
        check.due("7: awake stays", 1, x.count(3));
        check.due("7: sheets stay", 3, x.drop(1));
        check.due("7: one", 1, Check.heap(x, " c 5 t 1 @ 2 "));
        check.due("7: the image stays", 1, x.restore());
        check.due("7: as it was", 8, x.count(0));
        check.due("7: the tape is empty", -20, x.heap());
        check.due("7: those told stay", 8, x.count(0));
        check.due("7: no room to tell them, and no need", 12, Check.heap(x, "c1,c1,c1,c1,c1,c1,c1,c1,c1,c1,c1,c1"));
        check.due("7: FULL then", WormHeap.FULL, x.piece(0, 1, 0, 0));
    }

    private static void heapFaults() {
        Object[][] faults = {
            {"", 0}, {" ", 1}, {"C1", 0}, {"1", 0}, {",", 0}, {"x1", 0}, {"c", 1}, {"c ", 2}, {"cc", 1}, {"c,", 1},
            {"c0", 1}, {"c00", 1}, {"c 0", 2}, {"c0 5", 1}, {"c100", 1}, {"c0100", 1}, {"c4294967297", 1},
            {"c18446744073709551617", 1}, {"c100x", 1}, {"c0x", 1}, {"c-1", 1}, {"c1 1", 3}, {"c1t", 3}, {"c1t4", 3},
            {"c1t ", 4}, {"c1t10", 4}, {"c1tt", 3}, {"c1t@", 3}, {"c1@", 3}, {"c1@6", 3}, {"c1@-", 3}, {"c1@10", 4},
            {"c1@1t1", 4}, {"c1@1@1", 4}, {"c1t1t1", 4}, {"c1;", 2}, {"c1,", 3}, {"c1, ", 4}, {"c1,,c1", 3},
            {"c1,c0", 4}, {"c1c1", 2}, {"c1 c1", 3}, {"c1@1 2", 5}, {"c1t1 2", 5}, {"~", 0},
            {"c1,c1,c1,c1,c1,c1,c1,c1,c1,c1,c1,c1,", 35}, {"c1,c1,c1,c1,c1,c1,c1,c1,c1,c1,c1,c1,c1", 35},
            {"c1,c1,c1,c1,c1,c1,c1,c1,c1,c1,c1,c1 , c1", 36}, {"c1,c1,c1,c1,c1,c1,c1,c1,c1,c1,c1,c0", 34}};
        WormHeap x = Check.made("c5@0,k6@0");
        for (Object[] fault : faults) {
            String text = (String) fault[0];
            check.due("7: a fault of " + text, -20 - (Integer) fault[1], Check.heap(x, text));
        }
        check.due("7: those told stay", 2, x.count(0));
        check.due("7: and lie as before", 1, x.of(0, 3));
        check.due("7: the tape is empty", 1, x.type('c', 1));
    }

    private static void night() {
        WormHeap x = Check.made("c3@0,c3@0,c3@1,c9@2,l9");
        check.due("8: lift, lay, push, swap", 4, Check.night(x, "l0;db>1;p1>5;s2=e"));
        check.due("8: it came out", 6, x.told(3, 3));
        check.due("8: lead lies there", 4, x.of(2, 3));
        check.due("8: pushed", 1, x.of(5, 3));
        check.due("8: till nothing lies there", 1, Check.night(x, "l0;l0;l5"));
        check.due("8: the rest is not done", 1, x.of(5, 1));
        check.due("8: not in the bag", 0, Check.night(x, "db>1;l5"));
        check.due("8: swap of what is not in the bag", 0, Check.night(x, "s5=b;l5"));
        check.due("8: swap where nothing lies", 0, Check.night(x, "s3=a"));
        check.due("8: not awake so far", 0, x.count(3));
        check.due("8: till it is felt", 1, Check.night(x, " p 5 > 1 ; l 2 ; l 1 "));
        check.due("8: awake once", 1, x.count(3));
        check.due("8: it ate the coin of 3", 7, x.told(0, 3));
        check.due("8: lay of the eaten", 0, Check.night(x, "da>0"));
        check.due("8: the tape is empty", -20, x.night());
        WormHeap z = Check.made("c1@0,c1@0,c1@0,c1@0,c1@0,c1@0,c1@0,c1@0,c1@0,c1@0,c1@0,c1@0");
        check.due("8: as many as lie there", 12, Check.night(z, "l0;".repeat(39) + "l0"));
        check.due("8: all are in the bag", 12, z.count(1));
        check.due("8: by the last letter", 1, Check.night(z, "dl>5"));
        check.due("8: it lies there", 11, z.of(5, 3));
    }

    private static void nightFaults() {
        Object[][] faults = {
            {"", 0}, {"  ", 2}, {"x", 0}, {"L0", 0}, {";", 0}, {"l", 1}, {"l ", 2}, {"l6", 1}, {"la", 1}, {"l-", 1},
            {"l00", 2}, {"l0 0", 3}, {"l0;", 3}, {"l0;;", 3}, {"l0,", 2}, {"l0l0", 2}, {"l0;x", 3}, {"l>0", 1},
            {"d", 1}, {"dm>0", 1}, {"d0>0", 1}, {"dA>0", 1}, {"da", 2}, {"da=0", 2}, {"da>", 3}, {"da>6", 3},
            {"da>a", 3}, {"da>00", 4}, {"dc>0", 1}, {"dl>0", 1}, {"l0;dc>0", 4}, {"db>0;dc>0", 6},
            {"s", 1}, {"s6=a", 1}, {"sa=0", 1}, {"s0", 2}, {"s0>a", 2}, {"s0=", 3}, {"s0=0", 3}, {"s0=c", 3},
            {"s0=m", 3}, {"s0=aa", 4}, {"p", 1}, {"p6>0", 1}, {"p0", 2}, {"p0=1", 2}, {"p0>", 3}, {"p0>6", 3},
            {"p0>0", 3}, {"p5>5", 3}, {"p 5 > 5", 6}, {"p0>a", 3}, {"p0>10", 4}, {"p0>1;l0;p2>2", 11}};
        WormHeap x = Check.made("c1@0,c1");
        for (Object[] fault : faults) {
            String text = (String) fault[0];
            check.due("8: a fault of " + text, -20 - (Integer) fault[1], Check.night(x, text));
        }
        check.due("8: nothing is done", 0, x.of(0, 3));
        check.due("8: nor in the bag", 1, x.count(1));
        check.due("8: the tape is empty", 1, x.type('l', 1));
        check.due("8: no piece at all", -21, Check.night(new WormHeap(), "da>0"));
    }

    private static void count() {
        WormHeap x = Check.made("c5@0,k6@1,l7@1,r8,c9,k9");
        int[] due = {6, 3, 0, 0, 20, 28};
        for (int what = 0; what < 6; what++) {
            check.due("9: count(" + what + ")", due[what], x.count(what));
        }
        check.due("9: felt", WormHeap.FULL, x.lift(0));
        check.due("9: felt", WormHeap.FULL, x.lift(0));
        int[] then = {6, 1, 2, 2, 20, 8};
        for (int what = 0; what < 6; what++) {
            check.due("9: then count(" + what + ")", then[what], x.count(what));
        }
        for (int w : new int[] {-1, 6, LEAST, MOST}) {
            check.due("9: BAD", WormHeap.BAD, x.count(w));
        }
    }
}
