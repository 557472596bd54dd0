/** Promises 18 to 21: odds, shares, images. */
final class FeelsTest {
    private static final int LEAST = Integer.MIN_VALUE, MOST = Integer.MAX_VALUE;
    private static final Check check = new Check("FeelsTest");

    public static void main(String[] args) {
        odds();
        oddsRefused();
        share();
        image();
        check.done();
    }

    private static void odds() {
        WormHeap x = new WormHeap();
        int[][] due = {
            // change, n, q, above, below
            {4, 1, 0, 1, 1}, {4, 1, 1, 7, 8}, {4, 2, 1, 49, 64}, {4, 6, 1, 117649, 262144}, {4, 2, 2, 9, 16},
            {4, 3, 4, 1, 8}, {4, 6, 4, 1, 64}, {4, 6, 7, 1, 262144}, {4, 6, 8, 0, 1}, {4, 1, 8, 0, 1},
            {3, 6, 8, 1, 1}, {0, 1, 8, 1, 1}, {99, 3, 6, 1, 64}, {99, 5, 5, 243, 32768}};
        for (int[] d : due) {
            check.due("18: above", d[3], x.odds(2, d[0], d[1], d[2], 0));
            check.due("18: below", d[4], x.odds(2, d[0], d[1], d[2], 1));
        }
        x.sense(2, 4);
        check.due("18: by the sense of the place", 1, x.odds(2, 4, 1, 1, 1));
        check.due("18: not of another", 8, x.odds(1, 4, 1, 1, 1));
        x.sense(2, 0);
        check.due("18: a change of 1", 8, x.odds(2, 1, 1, 1, 1));
        check.due("18: no change", 1, x.odds(2, 0, 1, 1, 1));
    }

    private static void oddsRefused() {
        WormHeap x = new WormHeap();
        int[][] wrong = {{-1, 4, 1, 1, 0}, {6, 4, 1, 1, 0}, {0, -1, 1, 1, 0}, {0, 100, 1, 1, 0}, {0, 4, 0, 1, 0},
            {0, 4, 7, 1, 0}, {0, 4, 1, -1, 0}, {0, 4, 1, 9, 0}, {0, 4, 1, 1, -1}, {0, 4, 1, 1, 2}};
        for (int[] w : wrong) {
            check.due("18: BAD", WormHeap.BAD, x.odds(w[0], w[1], w[2], w[3], w[4]));
        }
        for (int w : new int[] {LEAST, MOST}) {
            check.due("18: BAD", WormHeap.BAD, x.odds(w, 4, 1, 1, 0));
            check.due("18: BAD", WormHeap.BAD, x.odds(0, w, 1, 1, 0));
            check.due("18: BAD", WormHeap.BAD, x.odds(0, 4, w, 1, 0));
            check.due("18: BAD", WormHeap.BAD, x.odds(0, 4, 1, w, 0));
            check.due("18: BAD", WormHeap.BAD, x.odds(0, 4, 1, 1, w));
        }
    }

    private static void share() {
        WormHeap x = Check.made("c5t0,k5t1,l7t0,r9t2,c50t3@0,c4t0");
        int[][] due = {
            // town, set, above, below; the bag weighs 32: 9 of town 0, 7 of 1, 9 of 2, lead of 7
            {0, 15, 43, 4}, {1, 15, 35, 4}, {2, 15, 43, 4}, {3, 15, 7, 4}, {0, 1, 32, 1}, {3, 8, 32, 1},
            {0, 3, 17, 1}, {1, 3, 15, 1}, {1, 6, 15, 1}, {2, 6, 17, 1}, {0, 7, 34, 3}, {1, 7, 28, 3}, {3, 12, 23, 2}};
        for (int[] d : due) {
            check.due("19: above", d[2], x.share(d[0], d[1], 0));
            check.due("19: below", d[3], x.share(d[0], d[1], 1));
        }
        int[][] wrong = {{-1, 15, 0}, {4, 15, 0}, {LEAST, 15, 0}, {MOST, 15, 0}, {0, -1, 0}, {0, 16, 0}, {0, 17, 0},
            {0, LEAST, 0}, {0, MOST, 0}, {0, 15, -1}, {0, 15, 2}, {0, 15, LEAST}, {0, 15, MOST}, {0, 0, 0},
            {0, 14, 0}, {1, 13, 0}, {2, 11, 0}, {3, 7, 0}};
        for (int[] w : wrong) {
            check.due("19: BAD", WormHeap.BAD, x.share(w[0], w[1], w[2]));
        }
        check.due("19: nothing", 0, new WormHeap().share(0, 15, 0));
        check.due("19: of 1", 1, new WormHeap().share(0, 15, 1));
    }

    private static void image() {
        WormHeap x = Check.made("c2@0,k1@0,c4@0,l9,r8t3@5");
        check.due("21: none", WormHeap.NONE, x.restore());
        x.sense(1, 9);
        x.lift(0);
        check.due("20: image", 1, x.image());
        Check.fill(x, 0, 1, 1, 2, 3);
        Check.write(x, "l1");
        x.sense(1, 8);
        x.sense(0, 50);
        x.lift(0);
        x.lift(0);
        x.turn();
        x.piece(0, 5, 2, 5);
        x.lift(1);
        x.lift(5);
        check.due("21: restore", 1, x.restore());
        check.due("21: how many", 5, x.count(0));
        check.due("21: in the bag", 0, x.count(1));
        check.due("21: eaten", 1, x.count(2));
        check.due("21: awake", 1, x.count(3));
        check.due("21: sense", 9, x.of(1, 2));
        check.due("21: sense", 3, x.of(0, 2));
        check.due("21: top", 2, x.of(0, 3));
        check.due("21: off", 2, x.told(0, 4));
        check.due("21: off", 1, x.told(1, 4));
        check.due("21: kind", 3, x.told(4, 0));
        check.due("21: weight", 8, x.told(4, 1));
        check.due("21: town", 3, x.told(4, 2));
        check.due("21: place", 5, x.told(4, 3));
        check.due("21: the sheet stays", 3, x.drop(0));
        check.due("21: the tape stays", 3, x.type(' ', 1));
        check.due("21: as typed", 0, x.night());
        check.due("21: it is no act", 1, x.count(3));
        check.due("7: a heap leaves it", 6, Check.heap(x, "r1t1@3,r1t1@3,r1t1@3,r1t1@3,c1t1@3,c7t1@3"));
        check.due("21: again", 1, x.restore());
        check.due("21: again as it was", 5, x.count(0));
        int[][] due = {{0, 2, 0, 0}, {1, 3, 0, 0}, {0, 4, 0, 0}, {2, 9, 4, 7}, {3, 8, 3, 5}};
        for (int piece = 0; piece < due.length; piece++) {
            for (int what = 0; what < 4; what++) {
                check.due("21: told(" + piece + ", " + what + ")", due[piece][what], x.told(piece, what));
            }
        }
        x.sense(3, 44);
        check.due("20: a new image", 1, x.image());
        x.sense(3, 45);
        x.restore();
        check.due("21: the newest", 44, x.of(3, 2));
    }
}
