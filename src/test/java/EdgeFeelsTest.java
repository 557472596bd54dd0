/**
 * The bounds that the document names for promises 18 to 21: ODDS, SHARE, the IMAGE, sentence by sentence.
 */
final class EdgeFeelsTest {
    private static final int LEAST = Integer.MIN_VALUE, MOST = Integer.MAX_VALUE;
    private static final int BAD = WormHeap.BAD, FULL = WormHeap.FULL, NONE = WormHeap.NONE;
    private static final Check check = new Check("EdgeFeelsTest");
    private static final Twins twins = new Twins(check);

    /** In the bag: 7 of town 0, 9 of town 1, 1 of town 3, lead of 4; one was eaten; no image. */
    private static void some(WormHeap x) {
        Check.heap(x, "c3@0,c30t2@5,c7,k7t1,l4t2,r1t3,c1t0");
        x.lift(5);
        x.sense(1, 0);
        x.sense(2, 98);
        x.sense(3, 99);
        Check.fill(x, 0, 2, 1, 0);
        Check.fill(x, 2, 1, 7, 8, 9);
        Check.write(x, "c7@3");
    }

    private static void imaged(WormHeap x) {
        some(x);
        x.image();
    }

    public static void main(String[] args) {
        oddsOfAllNumbers();
        oddsBySense();
        oddsTakesItsBounds();
        oddsRefuses();
        shareOfAnEmptyBag();
        shareOfEachSet();
        shareOfAFullBag();
        shareOfTheBagOnly();
        shareRefuses();
        imageOfNothing();
        imageKeepsAll();
        imageKeepsEachNumber();
        imageKeepsNoSheetsNoTape();
        imageIsTheLast();
        restoreManyTimes();
        restoreRefuses();
        check.done();
    }

    private static long power(long base, int n) {
        return n == 0 ? 1 : base * power(base, n - 1);
    }

    /** "how likely it FEELS none of n like ones"; "in lowest terms, told above (part 0), below (part 1; above 0)". */
    private static void oddsOfAllNumbers() {
        WormHeap x = new WormHeap();
        for (int q = 0; q <= 8; q++) {
            for (int n = 1; n <= 6; n++) {
                // Of 8 - q in 8 only powers of 2 can be taken out.
                long above = power(8 - q, n);
                long below = power(8, n);
                while (above % 2 == 0 && below % 2 == 0) {
                    above /= 2;
                    below /= 2;
                }
                String of = " of " + n + " by " + q;
                check.due("18: above" + of, above, x.odds(0, 4, n, q, 0));
                check.due("18: below" + of, below, x.odds(0, 4, n, q, 1));
                check.due("18: above, not above the SENSE" + of, 1, x.odds(0, 3, n, q, 0));
                check.due("18: below, not above the SENSE" + of, 1, x.odds(0, 3, n, q, 1));
            }
        }
        check.due("18: never, above", 0, x.odds(0, 4, 1, 8, 0));
        check.due("18: never, below", 1, x.odds(0, 4, 1, 8, 1));
        check.due("18: the greatest above", 117649, x.odds(0, 4, 6, 1, 0));
        check.due("18: the greatest below", 262144, x.odds(0, 4, 6, 1, 1));
        check.due("18: it is no act", 0, x.count(3));
    }

    /** "a change of a LOAD above the SENSE .., none that is not above it". */
    private static void oddsBySense() {
        for (int place = 0; place < 6; place++) {
            for (int sense : new int[] {0, 1, 3, 50, 98, 99}) {
                WormHeap x = new WormHeap();
                x.sense(place, sense);
                for (int change : new int[] {0, 1, 2, 3, 4, 49, 50, 51, 98, 99}) {
                    int due = change > sense ? 8 : 1;
                    check.due("18: " + change + " by " + sense + " in " + place, due, x.odds(place, change, 1, 1, 1));
                }
                int other = (place + 1) % 6;
                check.due("18: the others have 3", 8, x.odds(other, 4, 1, 1, 1));
                check.due("18: the others have 3", 1, x.odds(other, 3, 1, 1, 1));
            }
        }
    }

    private static void oddsTakesItsBounds() {
        WormHeap x = new WormHeap();
        int[][] taken = {{0, 4, 1, 1, 1, 8}, {5, 4, 1, 1, 1, 8}, {0, 0, 1, 1, 1, 1}, {0, 99, 1, 1, 1, 8}, {0, 4, 6, 1, 1, 262144},
            {0, 4, 1, 0, 1, 1}, {0, 4, 1, 0, 0, 1}, {0, 4, 1, 8, 0, 0}, {0, 4, 1, 8, 1, 1}, {0, 4, 1, 1, 0, 7}};
        for (int[] t : taken) {
            check.due("18: odds at a bound", t[5], x.odds(t[0], t[1], t[2], t[3], t[4]));
        }
    }

    private static void oddsRefuses() {
        int[] place = {-1, 6, LEAST, MOST};
        int[] change = {-1, -4, 100, LEAST, MOST};
        int[] n = {0, 7, -1, 32, LEAST, MOST};
        int[] q = {-1, 9, LEAST, MOST};
        int[] part = {-1, 2, LEAST, MOST};
        for (int w : place) {
            twins.unchanged("18: BAD, PLACE " + w, EdgeFeelsTest::some, BAD, x -> x.odds(w, 4, 1, 1, 0));
        }
        for (int w : change) {
            twins.unchanged("18: BAD, change " + w, EdgeFeelsTest::some, BAD, x -> x.odds(0, w, 1, 1, 0));
        }
        for (int w : n) {
            twins.unchanged("18: BAD, n " + w, EdgeFeelsTest::some, BAD, x -> x.odds(0, 4, w, 1, 0));
            twins.unchanged("18: BAD, n " + w + ", not above", EdgeFeelsTest::some, BAD, x -> x.odds(0, 0, w, 1, 0));
        }
        for (int w : q) {
            twins.unchanged("18: BAD, q " + w, EdgeFeelsTest::some, BAD, x -> x.odds(0, 4, 1, w, 0));
            twins.unchanged("18: BAD, q " + w + ", not above", EdgeFeelsTest::some, BAD, x -> x.odds(0, 0, 1, w, 0));
        }
        for (int w : part) {
            twins.unchanged("18: BAD, part " + w, EdgeFeelsTest::some, BAD, x -> x.odds(0, 4, 1, 1, w));
        }
        twins.unchanged("18: ODDS", EdgeFeelsTest::some, 7, x -> x.odds(2, 99, 1, 1, 0));
        twins.unchanged("18: ODDS, surely", EdgeFeelsTest::some, 0, x -> x.odds(0, 99, 6, 8, 0));
    }

    private static void shareOfAnEmptyBag() {
        WormHeap none = new WormHeap();
        WormHeap lies = Check.made("c9t0@0,l9@1,k9t3@5");
        for (int set = 1; set <= 15; set++) {
            for (int town = 0; town < 4; town++) {
                if ((set >> town & 1) == 1) {
                    check.due("19: of nothing, above", 0, none.share(town, set, 0));
                    check.due("19: of nothing, below", 1, none.share(town, set, 1));
                    check.due("19: of an empty bag, above", 0, lies.share(town, set, 0));
                    check.due("19: of an empty bag, below", 1, lies.share(town, set, 1));
                }
            }
        }
    }

    /** "each what its own PIECES in it weigh, and as much as each other one of them of what all others weigh". */
    private static void shareOfEachSet() {
        int[] own = {7, 9, 0, 1};
        int lead = 4;
        for (int set = 0; set <= 15; set++) {
            WormHeap x = new WormHeap();
            some(x);
            int there = Integer.bitCount(set);
            int rest = lead;
            for (int town = 0; town < 4; town++) {
                rest += (set >> town & 1) == 0 ? own[town] : 0;
            }
            for (int town = 0; town < 4; town++) {
                String of = " of " + town + " by " + set;
                if ((set >> town & 1) == 0) {
                    check.due("19: BAD, who was not there" + of, BAD, x.share(town, set, 0));
                    check.due("19: BAD, who was not there" + of, BAD, x.share(town, set, 1));
                    continue;
                }
                int above = x.share(town, set, 0);
                int below = x.share(town, set, 1);
                check.due("19: SHARE" + of, (long) (own[town] * there + rest) * below, (long) above * there);
                check.due("19: above 0" + of, 1, below > 0 ? 1 : 0);
                check.due("19: divides" + of, 0, there % below);
                boolean lowest = !(above % 2 == 0 && below % 2 == 0) && !(above % 3 == 0 && below % 3 == 0);
                check.due("19: in lowest terms" + of, 1, lowest ? 1 : 0);
            }
        }
        WormHeap x = new WormHeap();
        some(x);
        int[][] due = {{0, 1, 21, 1}, {3, 8, 21, 1}, {0, 15, 8, 1}, {1, 15, 10, 1}, {2, 15, 1, 1}, {3, 15, 2, 1},
            {0, 3, 19, 2}, {1, 3, 23, 2}, {0, 7, 26, 3}, {1, 7, 32, 3}, {2, 7, 5, 3}, {2, 4, 21, 1}, {2, 12, 10, 1},
            {3, 12, 11, 1}, {0, 5, 14, 1}, {2, 5, 7, 1}};
        for (int[] d : due) {
            check.due("19: above of " + d[0] + " by " + d[1], d[2], x.share(d[0], d[1], 0));
            check.due("19: below of " + d[0] + " by " + d[1], d[3], x.share(d[0], d[1], 1));
        }
    }

    private static void shareOfAFullBag() {
        WormHeap gold = new WormHeap();
        WormHeap lead = new WormHeap();
        for (int i = 0; i < 12; i++) {
            gold.piece(1, 99, 3, 6);
            lead.piece(2, 99, 3, 6);
        }
        check.due("19: all its own", 1212, gold.share(3, 8, 0));
        check.due("19: all its own, all there", 1212, gold.share(3, 15, 0));
        check.due("19: nothing is left for others", 0, gold.share(0, 15, 0));
        check.due("19: nothing is left, below", 1, gold.share(0, 15, 1));
        check.due("19: of one who was not there", 404, gold.share(0, 7, 0));
        check.due("19: lead is all's", 297, lead.share(3, 15, 0));
        check.due("19: lead is all's", 297, lead.share(0, 15, 0));
        check.due("19: lead of two", 594, lead.share(0, 3, 0));
        check.due("19: lead alone", 1188, lead.share(2, 4, 0));
    }

    private static void shareOfTheBagOnly() {
        WormHeap x = Check.made("c3@0,c9@1,c5,l6,c4t1");
        check.due("19: half the lead", 8, x.share(0, 3, 0));
        check.due("10: into THE BAG", 0, x.lift(0));
        check.due("19: more", 11, x.share(0, 3, 0));
        check.due("10: FELT", FULL, x.lift(1));
        check.due("19: the EATEN one is not shared", 8, x.share(0, 3, 0));
        check.due("19: nor for the others", 7, x.share(1, 3, 0));
    }

    private static void shareRefuses() {
        for (int w : new int[] {-1, 4, 5, 31, 32, 33, -32, LEAST, MOST}) {
            twins.unchanged("19: BAD, TOWN " + w, EdgeFeelsTest::some, BAD, x -> x.share(w, 15, 0));
            check.due("19: BAD, TOWN " + w, BAD, new WormHeap().share(w, -1, 0));
        }
        for (int w : new int[] {-1, 0, 16, 17, 31, 32, 65537, LEAST, LEAST + 1, MOST}) {
            twins.unchanged("19: BAD, set " + w, EdgeFeelsTest::some, BAD, x -> x.share(0, w, 0));
        }
        for (int w : new int[] {-1, 2, LEAST, MOST}) {
            twins.unchanged("19: BAD, part " + w, EdgeFeelsTest::some, BAD, x -> x.share(0, 15, w));
        }
        for (int town = 0; town < 4; town++) {
            int who = town;
            twins.unchanged("19: BAD, who was not there " + town, EdgeFeelsTest::some, BAD,
                x -> x.share(who, 15 & ~(1 << who), 0));
            twins.unchanged("19: BAD, none was there " + town, EdgeFeelsTest::some, BAD, x -> x.share(who, 0, 0));
        }
        twins.unchanged("19: SHARE", EdgeFeelsTest::some, 8, x -> x.share(0, 15, 0));
    }

    private static void imageOfNothing() {
        WormHeap x = new WormHeap();
        check.due("21: NONE at first", NONE, x.restore());
        check.due("20: of a new object", 1, x.image());
        EdgePiecesTest.twelve(x);
        x.sense(0, 99);
        x.lift(3);
        check.due("21: as new", 1, x.restore());
        check.due("21: no PIECES", 0, x.count(0));
        check.due("21: no LOAD", 0, x.count(4) + x.count(5));
        check.due("21: not AWAKE", 0, x.count(3));
        for (int place = 0; place < 6; place++) {
            check.due("21: SENSE", 3, x.of(place, 2));
            check.due("21: TOP", 12, x.of(place, 3));
        }
        check.due("21: the first again", 0, x.piece(0, 1, 0, 0));
        check.due("21: it lies lowest", 0, x.told(0, 4));
    }

    /** "All but SHEETS, THE TAPE is kept": pieces and how they lie, the bag, the eaten, SENSES, AWAKE. */
    private static void imageKeepsAll() {
        twins.changed("20: image", EdgeFeelsTest::some, 1, WormHeap::image, WormHeap::image);
        Twins.Calls[] changes = {x -> x.lift(0), x -> x.lay(5, 0), x -> x.swap(0, 4), x -> x.push(0, 4), x -> x.turn(),
            x -> x.lift(5), x -> x.sense(0, 77), x -> x.piece(3, 9, 1, 0), x -> {
                for (int i = 0; i < 9; i++) {
                    x.piece(0, 9, 1, i % 7);
                    x.lift(5);
                    x.turn();
                }
            }};
        for (int i = 0; i < changes.length; i++) {
            Twins.Calls change = changes[i];
            twins.changed("21: restore behind change " + i, EdgeFeelsTest::imaged, 1, x -> {
                change.on(x);
                return x.restore();
            }, x -> { });
        }
        twins.unchanged("21: restore at once", EdgeFeelsTest::imaged, 1, WormHeap::restore);
    }

    private static void twelveKept(WormHeap x) {
        Check.heap(x, "c1t0@0,k2t1@0,r3t2@0,c4t3@5,k5t0@5,l6@5,r7t1@1,c8t2@1,k9t3,r10t1,l11,k12t2@1");
        for (int place = 0; place < 6; place++) {
            x.sense(place, 10 * place + 1);
        }
        x.lift(0);
        x.image();
    }

    /** Each number of each of twelve, each SENSE, AWAKE, the EATEN, how they lie: all of them are others in between. */
    private static void imageKeepsEachNumber() {
        String others = "r99t3@5,r98t3@5,c97t2@5,k96t1@4,l95@4,r94t1@4,c93t3@0,k92t1@0,r91t0@0,c90t3@3,k89t2,l88t1";
        twins.changed("21: a HEAP of twelve others", EdgeFeelsTest::twelveKept, 1, x -> {
            Check.heap(x, others);
            for (int place = 0; place < 6; place++) {
                x.sense(place, 9 - place);
                x.lift(place);
            }
            return x.restore();
        }, x -> { });
        twins.changed("21: a HEAP of one", EdgeFeelsTest::twelveKept, 1, x -> {
            Check.heap(x, "l50t3@2");
            x.turn();
            return x.restore();
        }, x -> { });
        twins.changed("20: a new IMAGE keeps the others", EdgeFeelsTest::twelveKept, 1, x -> {
            Check.heap(x, others);
            x.sense(5, 9);
            x.image();
            x.restore();
            return x.image();
        }, x -> {
            Check.heap(x, others);
            x.sense(5, 9);
            x.image();
        });
    }

    private static void imageKeepsNoSheetsNoTape() {
        WormHeap x = new WormHeap();
        imaged(x);
        check.due("20: THE TAPE stays", 6, x.type(Check.word(",k"), 2));
        x.sheet(0, 0, 9);
        x.drop(2);
        x.sheet(1, 1, 4);
        check.due("21: restore", 1, x.restore());
        check.due("21: a SHEET is as it is", 9, x.drop(0));
        check.due("21: a SHEET is as it is", 4, x.drop(1));
        check.due("21: a SHEET is as it is", WormHeap.NULL, x.drop(2));
        check.due("21: THE TAPE is as it is", 7, x.type('5', 1));
        check.due("21: and as told", 2, x.heap());
        check.due("21: restore", 1, x.restore());
        check.due("21: THE TAPE stays empty", 1, x.type(' ', 1));
    }

    private static void imageIsTheLast() {
        WormHeap x = new WormHeap();
        x.image();
        x.piece(0, 1, 0, 0);
        x.image();
        x.piece(0, 1, 0, 0);
        x.restore();
        check.due("20: that of one", 1, x.count(0));
        x.restore();
        check.due("20: that of none is gone", 1, x.count(0));
    }

    private static void restoreManyTimes() {
        WormHeap x = new WormHeap();
        imaged(x);
        WormHeap y = new WormHeap();
        imaged(y);
        for (int i = 0; i < 5; i++) {
            x.turn();
            x.lift(5);
            x.lift(0);
            x.sense(i, i);
            x.piece(1, 99, 3, 5);
            check.due("21: restore " + i, 1, x.restore());
        }
        twins.same("21: what comes behind does not change the IMAGE", x, y);
    }

    private static void restoreRefuses() {
        twins.unchanged("21: NONE", EdgeFeelsTest::some, NONE, WormHeap::restore);
        twins.unchanged("21: NONE at first", x -> { }, NONE, WormHeap::restore);
    }
}
