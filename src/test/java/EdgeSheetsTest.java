/**
 * The bounds that the document names for promises 22 to 28: DENTS, TRIED, films, SHEETS, sentence by sentence.
 */
final class EdgeSheetsTest {
    private static final int LEAST = Integer.MIN_VALUE, MOST = Integer.MAX_VALUE;
    private static final int BAD = WormHeap.BAD, NOT = WormHeap.NOT, NONE = WormHeap.NONE;
    private static final int NULL = WormHeap.NULL, CAST = WormHeap.CAST, INDEX = WormHeap.INDEX, SIZE = WormHeap.SIZE;
    private static final int[] NO_SHEETS = {-1, 4, 5, LEAST, MOST};
    private static final int[] NO_LANES = {-1, 3, LEAST, MOST};
    private static final Check check = new Check("EdgeSheetsTest");
    private static final Twins twins = new Twins(check);

    /** Sheet 0: seven bytes, 1: no int, 2: 24 longs, 3: nothing. */
    private static void some(WormHeap x) {
        Check.heap(x, "c5@0,k6@0,c7@5,l9,c1");
        x.lift(5);
        x.image();
        Check.fill(x, 0, 0, 5, 0, 0, 0, 0, 0, 1);
        Check.fill(x, 1, 1);
        x.sheet(2, 2, 24);
        x.item(2, 2, 0, 50);
        x.item(2, 2, 23, 77);
        Check.write(x, "c7@3");
    }

    public static void main(String[] args) {
        dentsOfNone();
        dentsOfTwelve();
        dentsBelowNone();
        dentsOfWhatLies();
        dentsTheLeast();
        dentsByTheLanes();
        dentsTakesItsBounds();
        dentsRefuses();
        triedOneToEight();
        triedLeastAndMost();
        triedNext();
        triedNone();
        triedNotAsTold();
        triedTakesItsBounds();
        triedRefuses();
        filmByTheLanes();
        filmTakesItsBounds();
        filmRefuses();
        sheetOfNoneTo24();
        sheetIsNew();
        sheetRefuses();
        castOfEachLane();
        dropOfEach();
        dropRefuses();
        itemByTheLanes();
        itemTakesItsBounds();
        itemRefuses();
        copyOfNoneAndAll();
        copyOfEachLength();
        copyWithinOne();
        copyRefusesSheets();
        copyRefusesIndexes();
        check.done();
    }

    private static void dueDents(String what, WormHeap x, int lane, int sets, int least, long... items) {
        Check.fill(x, 3, lane, items);
        check.due("22: how many SETS, " + what, sets, x.dents(3, lane, 0, 0));
        check.due("22: the least, " + what, least, x.dents(3, lane, 0, 1));
    }

    /** The empty set is one: nothing is gone. */
    private static void dentsOfNone() {
        WormHeap x = new WormHeap();
        for (int lane = 0; lane < 3; lane++) {
            dueDents("no PIECES, no dent", x, lane, 1, 0, 0, 0, 0, 0, 0, 0);
            for (int place = 0; place < 6; place++) {
                long[] items = new long[6];
                items[place] = 1;
                dueDents("no PIECES, a dent in " + place, x, lane, 0, NONE, items);
                items[place] = -1;
                dueDents("no PIECES, more in " + place, x, lane, 0, NONE, items);
            }
        }
    }

    private static void dentsOfTwelve() {
        WormHeap one = new WormHeap();
        for (int i = 0; i < 12; i++) {
            one.piece(1, 99, 0, 5);
        }
        dueDents("all of twelve", one, 1, 1, 4095, 0, 0, 0, 0, 0, 1212);
        dueDents("more than all of twelve", one, 1, 0, NONE, 0, 0, 0, 0, 0, 1213);
        dueDents("one less than all of twelve", one, 1, 0, NONE, 0, 0, 0, 0, 0, 1211);
        dueDents("eleven of twelve", one, 1, 12, 2047, 0, 0, 0, 0, 0, 1111);
        dueDents("one of twelve", one, 1, 12, 1, 0, 0, 0, 0, 0, 101);
        dueDents("six of twelve", one, 1, 924, 63, 0, 0, 0, 0, 0, 606);
        dueDents("none of twelve", one, 1, 1, 0, 0, 0, 0, 0, 0, 0);
        dueDents("of another PLACE", one, 1, 0, NONE, 0, 0, 0, 0, 101, 0);
        WormHeap all = new WormHeap();
        for (int i = 0; i < 12; i++) {
            all.piece(0, 1 + i / 6, 0, i % 6);
        }
        dueDents("of each PLACE the first", all, 0, 1, 63, 1, 1, 1, 1, 1, 1);
        dueDents("of each PLACE the second", all, 0, 1, 4032, 2, 2, 2, 2, 2, 2);
        dueDents("of each PLACE both", all, 0, 1, 4095, 3, 3, 3, 3, 3, 3);
        dueDents("of one PLACE too much", all, 0, 0, NONE, 3, 3, 3, 3, 3, 4);
        dueDents("of the last PLACE", all, 0, 1, 2080, 0, 0, 0, 0, 0, 3);
    }

    /** "(below 0: more)": by what is gone no LOAD is more. */
    private static void dentsBelowNone() {
        WormHeap x = Check.made("c5@0,c5@1");
        dueDents("more", x, 1, 0, NONE, -5, 0, 0, 0, 0, 0);
        dueDents("less here, more there", x, 1, 0, NONE, 5, -5, 0, 0, 0, 0);
        dueDents("more by the least", x, 2, 0, NONE, Long.MIN_VALUE, 0, 0, 0, 0, 0);
        dueDents("less by the most", x, 2, 0, NONE, Long.MAX_VALUE, 0, 0, 0, 0, 0);
        dueDents("2 to the 32nd more than 5", x, 2, 0, NONE, 4294967301L, 0, 0, 0, 0, 0);
        dueDents("2 to the 32nd", x, 2, 0, NONE, 4294967296L, 0, 0, 0, 0, 0);
        dueDents("2 to the 8th more than 5", x, 1, 0, NONE, 261, 0, 0, 0, 0, 0);
        dueDents("5", x, 2, 1, 1, 5, 0, 0, 0, 0, 0);
    }

    /** "SETS of PIECES that lie in PLACES now (whatever lies on them)". */
    private static void dentsOfWhatLies() {
        WormHeap x = Check.made("c5@0,c90@0,c5,l5@1,r5@1,c1");
        dueDents("what lies under another one", x, 0, 1, 1, 5, 0, 0, 0, 0, 0);
        dueDents("lead and rubies, too", x, 0, 2, 8, 0, 5, 0, 0, 0, 0);
        dueDents("none of THE BAG", x, 0, 0, NONE, 1, 0, 0, 0, 0, 0);
        check.due("10: FELT", WormHeap.FULL, x.lift(0));
        dueDents("nothing that was EATEN", x, 0, 0, NONE, 1, 0, 0, 0, 0, 0);
        check.due("12: swapped", 4, x.swap(1, 2));
        dueDents("those that lie there now", x, 0, 2, 4, 0, 5, 0, 0, 0, 0);
        x.turn();
        dueDents("turned over", x, 0, 2, 4, 0, 0, 0, 0, 5, 0);
        dueDents("nothing where it lay", x, 0, 0, NONE, 0, 5, 0, 0, 0, 0);
        check.due("22: nothing is gone by it", 4, x.count(0) - x.count(1) - x.count(2));
    }

    /** "the least", as a number of bits. */
    private static void dentsTheLeast() {
        WormHeap x = Check.made("c3@2,c2@2,c1@2,c3@2,c1@4,c1@4");
        dueDents("3: the first two of many", x, 0, 3, 1, 0, 0, 3, 0, 0, 0);
        dueDents("4", x, 0, 2, 5, 0, 0, 4, 0, 0, 0);
        dueDents("6", x, 0, 3, 7, 0, 0, 6, 0, 0, 0);
        dueDents("in two PLACES", x, 0, 6, 17, 0, 0, 3, 0, 1, 0);
        WormHeap y = Check.made("c9@0,c1@0,c2@0,c3@0,c4@0,c5@0");
        dueDents("small ones that come later are the greater number", y, 0, 4, 1, 9, 0, 0, 0, 0, 0);
        WormHeap z = Check.made("c1@0,c2@0,c3@0,c6@0");
        dueDents("three come ahead of one", z, 0, 2, 7, 6, 0, 0, 0, 0, 0);
    }

    private static void dentsByTheLanes() {
        WormHeap x = Check.made("c99@0,c28@0,c1@0,k99@1,k27@1");
        dueDents("the greatest byte", x, 0, 1, 3, 127, 0, 0, 0, 0, 0);
        dueDents("a byte above it is below 0", x, 0, 0, NONE, 128, 0, 0, 0, 0, 0);
        dueDents("as an int it is not", x, 1, 1, 7, 128, 0, 0, 0, 0, 0);
        dueDents("nor as a long", x, 2, 1, 7, 128, 0, 0, 0, 0, 0);
        dueDents("a byte of 256 is 0", x, 0, 1, 0, 256, 0, 0, 0, 0, 0);
        dueDents("an int of 256 is not", x, 1, 0, NONE, 256, 0, 0, 0, 0, 0);
        dueDents("an int of 2 to the 32nd is 0", x, 1, 1, 0, 4294967296L, 0, 0, 0, 0, 0);
        dueDents("a long of it is not", x, 2, 0, NONE, 4294967296L, 0, 0, 0, 0, 0);
    }

    /** "6 items of a SHEET, taken as a row of a LANE, from one on". */
    private static void dentsTakesItsBounds() {
        for (int sheet = 0; sheet < 4; sheet++) {
            for (int lane = 0; lane < 3; lane++) {
                for (int n = 0; n <= 24; n++) {
                    WormHeap x = Check.made("c5@5");
                    x.sheet(sheet, lane, n);
                    for (int from : new int[] {-1, 0, n - 6, n - 5, n}) {
                        int due = from < 0 || from + 6 > n ? INDEX : 1;
                        check.due("22: from " + from + " of " + n, due, x.dents(sheet, lane, from, 0));
                    }
                    if (n >= 6) {
                        x.item(sheet, lane, n - 1, 5);
                        check.due("22: the last item of " + n, 1, x.dents(sheet, lane, n - 6, 1));
                    }
                }
            }
        }
    }

    private static void dentsRefuses() {
        for (int w : NO_SHEETS) {
            twins.unchanged("22: BAD, SHEET " + w, EdgeSheetsTest::some, BAD, x -> x.dents(w, 0, 0, 0));
        }
        for (int w : NO_LANES) {
            twins.unchanged("22: BAD, LANE " + w, EdgeSheetsTest::some, BAD, x -> x.dents(0, w, 0, 0));
            twins.unchanged("22: BAD ahead of NULL, LANE " + w, EdgeSheetsTest::some, BAD, x -> x.dents(3, w, 0, 0));
        }
        for (int w : new int[] {-1, 2, LEAST, MOST}) {
            twins.unchanged("22: BAD, what " + w, EdgeSheetsTest::some, BAD, x -> x.dents(0, 0, 0, w));
            twins.unchanged("22: BAD ahead of NULL, what " + w, EdgeSheetsTest::some, BAD, x -> x.dents(3, 0, 0, w));
            twins.unchanged("22: BAD ahead of CAST, what " + w, EdgeSheetsTest::some, BAD, x -> x.dents(0, 1, 0, w));
            twins.unchanged("22: BAD ahead of INDEX, what " + w, EdgeSheetsTest::some, BAD, x -> x.dents(1, 1, 0, w));
        }
        for (int lane = 0; lane < 3; lane++) {
            int l = lane;
            twins.unchanged("22: NULL", EdgeSheetsTest::some, NULL, x -> x.dents(3, l, 0, 0));
            twins.unchanged("22: NULL ahead of INDEX", EdgeSheetsTest::some, NULL, x -> x.dents(3, l, -1, 1));
            int cast = lane == 0 ? 1 : 0;
            twins.unchanged("22: CAST", EdgeSheetsTest::some, cast == 0 ? CAST : 1, x -> x.dents(0, l, 0, 0));
            twins.unchanged("22: CAST ahead of INDEX", EdgeSheetsTest::some, cast == 0 ? CAST : INDEX,
                x -> x.dents(0, l, 2, 1));
        }
        for (int from : new int[] {-1, 2, 7, LEAST, LEAST + 6, MOST, MOST - 5, MOST - 6}) {
            twins.unchanged("22: INDEX " + from, EdgeSheetsTest::some, INDEX, x -> x.dents(0, 0, from, 0));
            twins.unchanged("22: INDEX " + from, EdgeSheetsTest::some, INDEX, x -> x.dents(0, 0, from, 1));
        }
        twins.unchanged("22: INDEX of an empty row", EdgeSheetsTest::some, INDEX, x -> x.dents(1, 1, 0, 0));
        twins.unchanged("22: NONE", EdgeSheetsTest::some, NONE, x -> x.dents(2, 2, 0, 1));
        twins.unchanged("22: none", EdgeSheetsTest::some, 0, x -> x.dents(2, 2, 0, 0));
        twins.unchanged("22: the first", EdgeSheetsTest::some, 1, x -> x.dents(0, 0, 0, 1));
    }

    private static void dueTried(int least, int most, int next, long... items) {
        for (int lane = 0; lane < 3; lane++) {
            WormHeap x = new WormHeap();
            Check.fill(x, 0, lane, items);
            StringBuilder of = new StringBuilder(", lane " + lane + ":");
            for (long item : items) {
                of.append(" ").append(item);
            }
            check.due("23: LEAST" + of, least, x.tried(0, lane, 0, items.length / 2, 0));
            check.due("23: MOST" + of, most, x.tried(0, lane, 0, items.length / 2, 1));
            check.due("23: NEXT" + of, next, x.tried(0, lane, 0, items.length / 2, 2));
        }
    }

    /** "n times (1 .. 8) a change and whether it was FELT". */
    private static void triedOneToEight() {
        for (int n = 1; n <= 8; n++) {
            long[] items = new long[2 * n];
            for (int i = 0; i < n; i++) {
                items[2 * i] = 10 + i;
            }
            dueTried(9 + n, 99, 9 + n + (91 - n) / 2, items);
            for (int i = 0; i < n; i++) {
                items[2 * i] = 50 - i;
                items[2 * i + 1] = 1;
            }
            dueTried(0, 50 - n, (51 - n) / 2, items);
        }
        WormHeap x = new WormHeap();
        Check.fill(x, 0, 0, 10, 0, 20, 0, 30, 0, 40, 0, 50, 0, 60, 0, 70, 0, 80, 0, 90, 0);
        for (int n = 1; n <= 8; n++) {
            check.due("23: the first " + n, 10 * n, x.tried(0, 0, 0, n, 0));
            check.due("23: the last " + n, 90, x.tried(0, 0, 18 - 2 * n, n, 0));
        }
    }

    /** "LEAST, MOST SENSE by which all that is so": FELT above the SENSE, not FELT at it. */
    private static void triedLeastAndMost() {
        for (int change = 1; change <= 99; change++) {
            int senses = change;
            dueTried(0, change - 1, senses < 2 ? NONE : senses / 2, change, 1);
            senses = 100 - change;
            dueTried(change, 99, senses < 2 ? NONE : change + senses / 2, change, 0);
            dueTried(change - 1, change - 1, NONE, change, 1, change - 1, 0);
        }
        dueTried(0, 99, 50, 0, 0);
        dueTried(0, 0, NONE, 0, 0, 1, 1);
        dueTried(99, 99, NONE, 99, 0);
        dueTried(0, 98, 49, 99, 1);
        dueTried(98, 98, NONE, 99, 1, 98, 0);
    }

    /** "by which the greater one of the numbers .. is least, of like ones the least (none, if there are fewer than two)". */
    private static void triedNext() {
        for (int least = 0; least < 99; least += 7) {
            for (int most = least; most < 99; most += 5) {
                int next = NONE;
                int greater = MOST;
                for (int change = 0; change <= 99 && most > least; change++) {
                    int felt = Math.max(0, Math.min(most, change - 1) - least + 1);
                    int left = Math.max(felt, most - least + 1 - felt);
                    if (left < greater) {
                        greater = left;
                        next = change;
                    }
                }
                dueTried(least, most, next, least, 0, most + 1, 1);
            }
        }
        dueTried(4, 5, 5, 4, 0, 6, 1);
        dueTried(4, 6, 5, 4, 0, 7, 1);
        dueTried(4, 7, 6, 4, 0, 8, 1);
        dueTried(98, 99, 99, 98, 0);
        dueTried(0, 1, 1, 2, 1);
    }

    /** "(none, if there is no such SENSE)". */
    private static void triedNone() {
        dueTried(NONE, NONE, NONE, 0, 1);
        dueTried(NONE, NONE, NONE, 5, 0, 5, 1);
        dueTried(NONE, NONE, NONE, 5, 1, 5, 0);
        dueTried(NONE, NONE, NONE, 6, 0, 5, 1);
        dueTried(NONE, NONE, NONE, 99, 0, 99, 1);
        dueTried(NONE, NONE, NONE, 99, 0, 0, 1);
        dueTried(NONE, NONE, NONE, 1, 1, 2, 1, 3, 1, 4, 1, 5, 1, 6, 1, 7, 1, 1, 0);
    }

    /** "NOT: they are not as told": changes 0 .. 99, FELT 1 or 0. */
    private static void triedNotAsTold() {
        long[][] wrong = {{-1, 0}, {100, 0}, {0, -1}, {0, 2}, {99, 2}, {127, 1}, {-128, 1}};
        for (long[] w : wrong) {
            dueTried(NOT, NOT, NOT, w);
            dueTried(NOT, NOT, NOT, 5, 0, w[0], w[1]);
            dueTried(NOT, NOT, NOT, w[0], w[1], 5, 0);
            // Not as told comes ahead of none, wherever it stands.
            dueTried(NOT, NOT, NOT, 0, 1, w[0], w[1]);
            dueTried(NOT, NOT, NOT, w[0], w[1], 0, 1);
            dueTried(NOT, NOT, NOT, 1, 1, 2, 1, 3, 1, 4, 1, 5, 1, 6, 1, 7, 1, w[0], w[1]);
        }
        long[][] far = {{4294967296L, 0}, {4294967301L, 1}, {5, 4294967296L}, {5, 4294967297L}, {Long.MIN_VALUE, 0},
            {Long.MAX_VALUE, 1}, {5, Long.MIN_VALUE}, {5, Long.MAX_VALUE}, {5, Long.MIN_VALUE + 1}};
        for (long[] w : far) {
            WormHeap x = new WormHeap();
            Check.fill(x, 0, 2, w);
            for (int what = 0; what < 3; what++) {
                check.due("23: NOT, a long " + w[0] + " " + w[1], NOT, x.tried(0, 2, 0, 1, what));
            }
        }
        twins.unchanged("23: NOT", EdgeSheetsTest::some, NOT, x -> x.tried(2, 2, 22, 1, 0));
        WormHeap one = new WormHeap();
        Check.fill(one, 0, 1, 5, 0, 100, 0);
        check.due("23: what is not among the n does not count", 5, one.tried(0, 1, 0, 1, 0));
        check.due("23: from it on it does", NOT, one.tried(0, 1, 2, 1, 0));
        check.due("23: from between: 0 was FELT by 100", NOT, one.tried(0, 1, 1, 1, 0));
    }

    private static void triedTakesItsBounds() {
        for (int sheet = 0; sheet < 4; sheet++) {
            for (int lane = 0; lane < 3; lane++) {
                WormHeap x = new WormHeap();
                x.sheet(sheet, lane, 24);
                for (int n = 1; n <= 8; n++) {
                    check.due("23: from 0, " + n, 0, x.tried(sheet, lane, 0, n, 0));
                    check.due("23: the last from, " + n, 0, x.tried(sheet, lane, 24 - 2 * n, n, 0));
                    check.due("23: INDEX, " + n, INDEX, x.tried(sheet, lane, 25 - 2 * n, n, 0));
                    check.due("23: INDEX, -1, " + n, INDEX, x.tried(sheet, lane, -1, n, 0));
                }
                check.due("23: MOST", 99, x.tried(sheet, lane, 0, 1, 1));
                check.due("23: NEXT", 50, x.tried(sheet, lane, 0, 1, 2));
                check.due("23: no more than that", BAD, x.tried(sheet, lane, 0, 1, 3));
                for (int n = 0; n <= 16; n++) {
                    x.sheet(sheet, lane, n);
                    int times = Math.max(1, n / 2);
                    check.due("23: of " + n, n < 2 ? INDEX : 0, x.tried(sheet, lane, 0, times, 0));
                    check.due("23: BAD or INDEX of " + n, n == 16 ? BAD : INDEX, x.tried(sheet, lane, 0, n / 2 + 1, 0));
                }
            }
        }
    }

    private static void triedRefuses() {
        for (int w : NO_SHEETS) {
            twins.unchanged("23: BAD, SHEET " + w, EdgeSheetsTest::some, BAD, x -> x.tried(w, 2, 0, 1, 0));
        }
        for (int w : NO_LANES) {
            twins.unchanged("23: BAD, LANE " + w, EdgeSheetsTest::some, BAD, x -> x.tried(2, w, 0, 1, 0));
            twins.unchanged("23: BAD ahead of NULL, LANE " + w, EdgeSheetsTest::some, BAD, x -> x.tried(3, w, 0, 1, 0));
        }
        for (int w : new int[] {0, 9, -1, 1 << 30, LEAST, LEAST + 1, MOST}) {
            twins.unchanged("23: BAD, n " + w, EdgeSheetsTest::some, BAD, x -> x.tried(2, 2, 0, w, 0));
            twins.unchanged("23: BAD ahead of NULL, n " + w, EdgeSheetsTest::some, BAD, x -> x.tried(3, 2, 0, w, 0));
            twins.unchanged("23: BAD ahead of CAST, n " + w, EdgeSheetsTest::some, BAD, x -> x.tried(2, 0, 0, w, 0));
            twins.unchanged("23: BAD ahead of INDEX, n " + w, EdgeSheetsTest::some, BAD, x -> x.tried(2, 2, -1, w, 0));
        }
        for (int w : new int[] {-1, 3, LEAST, MOST}) {
            twins.unchanged("23: BAD, what " + w, EdgeSheetsTest::some, BAD, x -> x.tried(2, 2, 0, 1, w));
            twins.unchanged("23: BAD ahead of NULL, what " + w, EdgeSheetsTest::some, BAD, x -> x.tried(3, 2, 0, 1, w));
            twins.unchanged("23: BAD ahead of NOT, what " + w, EdgeSheetsTest::some, BAD, x -> x.tried(2, 2, 22, 1, w));
        }
        twins.unchanged("23: NULL", EdgeSheetsTest::some, NULL, x -> x.tried(3, 0, 0, 1, 0));
        twins.unchanged("23: NULL ahead of INDEX", EdgeSheetsTest::some, NULL, x -> x.tried(3, 2, -1, 8, 0));
        twins.unchanged("23: CAST", EdgeSheetsTest::some, CAST, x -> x.tried(2, 1, 0, 1, 0));
        twins.unchanged("23: CAST", EdgeSheetsTest::some, CAST, x -> x.tried(2, 0, 0, 1, 0));
        twins.unchanged("23: CAST ahead of INDEX", EdgeSheetsTest::some, CAST, x -> x.tried(1, 0, 0, 1, 0));
        twins.unchanged("23: CAST ahead of NOT", EdgeSheetsTest::some, CAST, x -> x.tried(2, 0, 22, 1, 0));
        for (int from : new int[] {-1, 23, 24, LEAST, LEAST + 2, MOST, MOST - 1, MOST - 2}) {
            twins.unchanged("23: INDEX " + from, EdgeSheetsTest::some, INDEX, x -> x.tried(2, 2, from, 1, 0));
        }
        for (int from : new int[] {9, MOST - 15, MOST - 16, LEAST + 16}) {
            twins.unchanged("23: INDEX " + from + ", eight", EdgeSheetsTest::some, INDEX, x -> x.tried(2, 2, from, 8, 0));
        }
        twins.unchanged("23: INDEX ahead of NOT", EdgeSheetsTest::some, INDEX, x -> x.tried(2, 2, 22, 2, 0));
        twins.unchanged("23: INDEX of an empty row", EdgeSheetsTest::some, INDEX, x -> x.tried(1, 1, 0, 1, 0));
        twins.unchanged("23: LEAST", EdgeSheetsTest::some, 50, x -> x.tried(2, 2, 0, 1, 0));
        twins.unchanged("23: NONE", EdgeSheetsTest::some, NONE, x -> x.tried(0, 0, 5, 1, 0));
    }

    /** "LOADS of all PLACES come to a SHEET .. (their lowest bits, each with its sign)". */
    private static void filmByTheLanes() {
        int[] loads = {0, 1, 99, 100, 127, 128, 255, 256, 257, 300, 384, 511, 512, 1212};
        for (int load : loads) {
            for (int lane = 0; lane < 3; lane++) {
                WormHeap x = new WormHeap();
                int rest = load;
                for (int i = 0; i < 12 && rest > 0; i++) {
                    int part = Math.min(rest, 101);
                    x.piece(part > 99 ? 1 : 0, part > 99 ? part - 2 : part, 0, 2);
                    rest -= part;
                }
                check.due("24: LOAD " + load, load, x.of(2, 0));
                x.sheet(0, lane, 7);
                for (int i = 0; i < 7; i++) {
                    x.item(0, lane, i, 55);
                }
                check.due("24: six", 6, x.film(0, lane, 0));
                int held = lane == 0 ? (byte) load : load;
                int due = held >= 0 && held <= 99 ? held : NOT;
                check.due("24: as the lane " + lane + " holds " + load, due, x.tried(0, lane, 2, 1, 0));
                check.due("24: empty ones", 0, x.tried(0, lane, 0, 1, 0));
                check.due("24: no more than six", NOT, x.tried(0, lane, 5, 1, 0));
                x.item(0, lane, 6, 0);
                check.due("24: the last is 0", 0, x.tried(0, lane, 5, 1, 0));
                boolean all = x.dents(0, lane, 0, 1) == (1 << x.count(0)) - 1;
                check.due("24: all that lies there", held == load ? 1 : 0, all ? 1 : 0);
            }
        }
        WormHeap two = Check.made("c1@0,c2@1,c3@2,c4@3,c5@4,c6@5,c7");
        two.sheet(1, 1, 12);
        check.due("24: six", 6, two.film(1, 1, 0));
        check.due("10: unFELT", 2, two.lift(2));
        check.due("24: six behind them", 6, two.film(1, 1, 6));
        check.due("24: the first ones stay", 0, two.dents(1, 1, 0, 0));
        check.due("24: the second ones are all that lies", 59, two.dents(1, 1, 6, 1));
    }

    private static void filmTakesItsBounds() {
        for (int sheet = 0; sheet < 4; sheet++) {
            for (int lane = 0; lane < 3; lane++) {
                for (int n = 0; n <= 24; n++) {
                    WormHeap x = Check.made("c5@5,c4@0");
                    x.sheet(sheet, lane, n);
                    for (int from : new int[] {-1, 0, n - 6, n - 5, n}) {
                        int due = from < 0 || from + 6 > n ? INDEX : 6;
                        check.due("24: from " + from + " of " + n, due, x.film(sheet, lane, from));
                    }
                    if (n >= 6) {
                        check.due("24: the last ones of " + n, 3, x.dents(sheet, lane, n - 6, 1));
                    }
                }
            }
        }
    }

    private static void filmRefuses() {
        for (int w : NO_SHEETS) {
            twins.unchanged("24: BAD, SHEET " + w, EdgeSheetsTest::some, BAD, x -> x.film(w, 0, 0));
        }
        for (int w : NO_LANES) {
            twins.unchanged("24: BAD, LANE " + w, EdgeSheetsTest::some, BAD, x -> x.film(0, w, 0));
            twins.unchanged("24: BAD ahead of NULL, LANE " + w, EdgeSheetsTest::some, BAD, x -> x.film(3, w, 0));
            twins.unchanged("24: BAD ahead of INDEX, LANE " + w, EdgeSheetsTest::some, BAD, x -> x.film(0, w, -1));
        }
        twins.unchanged("24: NULL", EdgeSheetsTest::some, NULL, x -> x.film(3, 1, 0));
        twins.unchanged("24: NULL ahead of INDEX", EdgeSheetsTest::some, NULL, x -> x.film(3, 1, -1));
        twins.unchanged("24: CAST", EdgeSheetsTest::some, CAST, x -> x.film(0, 1, 0));
        twins.unchanged("24: CAST", EdgeSheetsTest::some, CAST, x -> x.film(2, 0, 0));
        twins.unchanged("24: CAST ahead of INDEX", EdgeSheetsTest::some, CAST, x -> x.film(0, 2, 2));
        twins.unchanged("24: CAST ahead of INDEX, an empty row", EdgeSheetsTest::some, CAST, x -> x.film(1, 2, 0));
        for (int from : new int[] {-1, 2, 7, LEAST, LEAST + 6, MOST, MOST - 5, MOST - 6}) {
            twins.unchanged("24: INDEX " + from, EdgeSheetsTest::some, INDEX, x -> x.film(0, 0, from));
        }
        twins.unchanged("24: INDEX, 19 of 24", EdgeSheetsTest::some, INDEX, x -> x.film(2, 2, 19));
        twins.unchanged("24: INDEX of an empty row", EdgeSheetsTest::some, INDEX, x -> x.film(1, 1, 0));
        twins.changed("24: six", EdgeSheetsTest::some, 6, x -> x.film(0, 0, 1), x -> {
            x.item(0, 0, 1, 13);
            x.item(0, 0, 6, 7);
        });
        twins.changed("24: the last six of 24", EdgeSheetsTest::some, 6, x -> x.film(2, 2, 18), x -> {
            x.item(2, 2, 18, 13);
            x.item(2, 2, 23, 7);
        });
    }

    /** "a row .. of 0 to 24 items"; "BAD: also n above 24; SIZE: n below 0". */
    private static void sheetOfNoneTo24() {
        for (int sheet = 0; sheet < 4; sheet++) {
            for (int lane = 0; lane < 3; lane++) {
                for (int n = 0; n <= 24; n++) {
                    WormHeap x = new WormHeap();
                    check.due("25: sheet of " + n, n, x.sheet(sheet, lane, n));
                    check.due("27: the first of " + n, n > 0 ? 1 : INDEX, x.item(sheet, lane, 0, 1));
                    check.due("27: the last of " + n, n > 0 ? 1 : INDEX, x.item(sheet, lane, n - 1, 1));
                    check.due("27: none behind the last of " + n, INDEX, x.item(sheet, lane, n, 1));
                    check.due("27: of another LANE", CAST, x.item(sheet, (lane + 1) % 3, 0, 1));
                    for (int other = 0; other < 4; other++) {
                        check.due("26: how many " + sheet, other == sheet ? n : NULL, x.drop(other));
                    }
                }
            }
        }
    }

    /** "A SHEET holds a new row": the old one's items are gone, be it longer, shorter or of another LANE. */
    private static void sheetIsNew() {
        for (int lane = 0; lane < 3; lane++) {
            for (int was = 0; was < 3; was++) {
                WormHeap x = new WormHeap();
                x.sheet(0, was, 24);
                for (int i = 0; i < 24; i++) {
                    x.item(0, was, i, 60 + i);
                }
                check.due("25: a shorter one", 12, x.sheet(0, lane, 12));
                check.due("25: a longer one", 24, x.sheet(0, lane, 24));
                for (int i = 0; i < 24; i += 2) {
                    check.due("25: items of 0", 0, x.tried(0, lane, i, 1, 0));
                }
                check.due("25: its LANE", lane == was ? 1 : CAST, x.item(0, was, 0, 0));
                x.item(0, lane, 3, 9);
                check.due("25: a like one", 24, x.sheet(0, lane, 24));
                check.due("25: an item of 0", 0, x.tried(0, lane, 2, 1, 0));
                check.due("26: dropped", 24, x.drop(0));
                check.due("25: anew", 24, x.sheet(0, lane, 24));
                check.due("25: items of 0", 0, x.tried(0, lane, 0, 8, 0));
            }
        }
    }

    private static void sheetRefuses() {
        for (int w : NO_SHEETS) {
            twins.unchanged("25: BAD, SHEET " + w, EdgeSheetsTest::some, BAD, x -> x.sheet(w, 0, 3));
            twins.unchanged("25: BAD ahead of SIZE, SHEET " + w, EdgeSheetsTest::some, BAD, x -> x.sheet(w, 0, -1));
        }
        for (int w : NO_LANES) {
            twins.unchanged("25: BAD, LANE " + w, EdgeSheetsTest::some, BAD, x -> x.sheet(0, w, 3));
            twins.unchanged("25: BAD ahead of SIZE, LANE " + w, EdgeSheetsTest::some, BAD, x -> x.sheet(0, w, -1));
        }
        for (int n : new int[] {25, 26, 256, MOST}) {
            for (int sheet = 0; sheet < 3; sheet++) {
                int s = sheet;
                twins.unchanged("25: BAD, n " + n, EdgeSheetsTest::some, BAD, x -> x.sheet(s, 0, n));
            }
            check.due("25: BAD, n " + n, BAD, new WormHeap().sheet(3, 2, n));
        }
        for (int n : new int[] {-1, -2, -24, -256, LEAST, LEAST + 1}) {
            for (int sheet = 0; sheet < 3; sheet++) {
                int s = sheet;
                twins.unchanged("25: SIZE, n " + n, EdgeSheetsTest::some, SIZE, x -> x.sheet(s, 0, n));
            }
            twins.unchanged("25: SIZE, n " + n + ", of nothing", EdgeSheetsTest::some, SIZE, x -> x.sheet(3, 1, n));
        }
    }

    /** "CAST -12 (of SHEETS another LANE)": of each one, for each call that takes it as a row of another one. */
    private static void castOfEachLane() {
        for (int sheet = 0; sheet < 4; sheet++) {
            for (int lane = 0; lane < 3; lane++) {
                for (int told = 0; told < 3; told++) {
                    for (int n : new int[] {0, 24}) {
                        WormHeap x = new WormHeap();
                        x.sheet(sheet, lane, n);
                        int refused = lane != told ? CAST : n == 0 ? INDEX : 0;
                        String of = sheet + ", " + lane + " as " + told;
                        check.due("22: " + of, refused != 0 ? refused : 1, x.dents(sheet, told, 18, 0));
                        check.due("23: " + of, refused != 0 ? refused : 99, x.tried(sheet, told, 22, 1, 1));
                        check.due("24: " + of, refused != 0 ? refused : 6, x.film(sheet, told, 18));
                        check.due("27: " + of, refused != 0 ? refused : 1, x.item(sheet, told, 23, 1));
                    }
                }
            }
        }
    }

    private static void dropOfEach() {
        for (int sheet = 0; sheet < 4; sheet++) {
            for (int n : new int[] {0, 1, 23, 24}) {
                WormHeap x = new WormHeap();
                for (int other = 0; other < 4; other++) {
                    x.sheet(other, n % 3, n);
                }
                check.due("26: how many", n, x.drop(sheet));
                check.due("26: NULL then", NULL, x.drop(sheet));
                check.due("26: nothing to set", NULL, x.item(sheet, n % 3, 0, 1));
                check.due("26: nothing to film to", NULL, x.film(sheet, n % 3, 0));
                check.due("26: nothing to tell dents", NULL, x.dents(sheet, n % 3, 0, 0));
                check.due("26: nothing to try", NULL, x.tried(sheet, n % 3, 0, 1, 0));
                check.due("26: nothing to copy", NULL, x.copy(sheet, 0, (sheet + 1) % 4, 0, 0));
                check.due("26: nothing to copy to", NULL, x.copy((sheet + 1) % 4, 0, sheet, 0, 0));
                for (int other = 0; other < 4; other++) {
                    check.due("26: the others stay", other == sheet ? NULL : n, x.drop(other));
                }
            }
        }
    }

    private static void dropRefuses() {
        for (int w : NO_SHEETS) {
            twins.unchanged("26: BAD, SHEET " + w, EdgeSheetsTest::some, BAD, x -> x.drop(w));
        }
        twins.unchanged("26: NULL", EdgeSheetsTest::some, NULL, x -> x.drop(3));
        twins.unchanged("26: NULL at first", x -> { }, NULL, x -> x.drop(0));
    }

    /** "becomes v, its lowest bits (with its sign)". */
    private static void itemByTheLanes() {
        long[] values = {0, 1, 50, 99, 100, 127, 128, 129, 227, 255, 256, 257, 355, 356, -1, -127, -128, -129, -157, -255, -256,
            -257, 32768, 65536, 65595, 2147483647, 2147483648L, 2147483649L, -2147483648L, -2147483649L, 4294967295L,
            4294967296L, 4294967297L, 4294967395L, -4294967296L, -4294967295L, Long.MAX_VALUE, Long.MIN_VALUE,
            Long.MIN_VALUE + 7, 1L << 40, (1L << 40) + 7, (1L << 56) + 99, (7L << 32) + 128, (7L << 32) + 256};
        for (int lane = 0; lane < 3; lane++) {
            for (long v : values) {
                long held = lane == 0 ? (v & 255) - ((v & 128) << 1)
                    : lane == 1 ? (v & 0xffffffffL) - ((v & 0x80000000L) << 1) : v;
                int due = held >= 0 && held <= 99 ? (int) held : NOT;
                WormHeap x = new WormHeap();
                x.sheet(0, lane, 2);
                check.due("27: item " + v, 1, x.item(0, lane, 0, v));
                check.due("27: lane " + lane + " holds " + v, due, x.tried(0, lane, 0, 1, 0));
                due = held == 0 ? 0 : held == 1 ? NONE : NOT;
                x.sheet(0, lane, 2);
                x.item(0, lane, 1, v);
                check.due("27: lane " + lane + " holds behind it " + v, due, x.tried(0, lane, 0, 1, 0));
            }
        }
    }

    private static void itemTakesItsBounds() {
        for (int lane = 0; lane < 3; lane++) {
            WormHeap x = new WormHeap();
            x.sheet(1, lane, 24);
            for (int i = 0; i < 24; i++) {
                check.due("27: item " + i, 1, x.item(1, lane, i, 30 + i));
            }
            x.sheet(2, lane, 2);
            for (int i = 0; i < 24; i++) {
                x.copy(1, i, 2, 0, 1);
                check.due("27: it holds at " + i, 30 + i, x.tried(2, lane, 0, 1, 0));
            }
            check.due("27: INDEX", INDEX, x.item(1, lane, 24, 1));
            check.due("27: INDEX", INDEX, x.item(1, lane, -1, 1));
            check.due("27: as many", 24, x.drop(1));
        }
    }

    private static void itemRefuses() {
        for (int w : NO_SHEETS) {
            twins.unchanged("27: BAD, SHEET " + w, EdgeSheetsTest::some, BAD, x -> x.item(w, 0, 0, 9));
        }
        for (int w : NO_LANES) {
            twins.unchanged("27: BAD, LANE " + w, EdgeSheetsTest::some, BAD, x -> x.item(0, w, 0, 9));
            twins.unchanged("27: BAD ahead of NULL, LANE " + w, EdgeSheetsTest::some, BAD, x -> x.item(3, w, 0, 9));
            twins.unchanged("27: BAD ahead of INDEX, LANE " + w, EdgeSheetsTest::some, BAD, x -> x.item(0, w, -1, 9));
        }
        for (int lane = 0; lane < 3; lane++) {
            int l = lane;
            twins.unchanged("27: NULL, LANE " + lane, EdgeSheetsTest::some, NULL, x -> x.item(3, l, 0, 9));
            twins.unchanged("27: NULL ahead of INDEX, LANE " + lane, EdgeSheetsTest::some, NULL, x -> x.item(3, l, -1, 9));
        }
        for (int lane = 1; lane < 3; lane++) {
            int l = lane;
            twins.unchanged("27: CAST, LANE " + lane, EdgeSheetsTest::some, CAST, x -> x.item(0, l, 0, 9));
            twins.unchanged("27: CAST ahead of INDEX, LANE " + lane, EdgeSheetsTest::some, CAST, x -> x.item(0, l, 7, 9));
        }
        for (int i : new int[] {-1, 7, 8, 23, 24, 256, LEAST, MOST}) {
            twins.unchanged("27: INDEX " + i, EdgeSheetsTest::some, INDEX, x -> x.item(0, 0, i, 9));
        }
        for (int i : new int[] {-1, 24, 25, 48, LEAST, MOST}) {
            twins.unchanged("27: INDEX " + i + " of 24", EdgeSheetsTest::some, INDEX, x -> x.item(2, 2, i, 9));
        }
        for (int i : new int[] {-1, 0, 1}) {
            twins.unchanged("27: INDEX " + i + " of none", EdgeSheetsTest::some, INDEX, x -> x.item(1, 1, i, 9));
        }
    }

    /** A sheet of items 1, 2, 3 .. */
    private static void counted(WormHeap x, int sheet, int lane, int n) {
        x.sheet(sheet, lane, n);
        for (int i = 0; i < n; i++) {
            x.item(sheet, lane, i, i + 1);
        }
    }

    private static void dueItems(String what, WormHeap x, int sheet, int lane, int... due) {
        int scratch = sheet == 3 ? 2 : 3;
        x.sheet(scratch, lane, 2);
        for (int i = 0; i < due.length; i++) {
            x.copy(sheet, i, scratch, 0, 1);
            check.due("28: item " + i + ", " + what, due[i], x.tried(scratch, lane, 0, 1, 0));
        }
        check.due("28: as many as before, " + what, INDEX, x.item(sheet, lane, due.length, 0));
    }

    private static void copyOfNoneAndAll() {
        for (int lane = 0; lane < 3; lane++) {
            WormHeap x = new WormHeap();
            counted(x, 0, lane, 24);
            x.sheet(1, lane, 24);
            check.due("28: none", 0, x.copy(0, 0, 1, 0, 0));
            check.due("28: none, at the ends", 0, x.copy(0, 24, 1, 24, 0));
            check.due("28: none, one at its end", 0, x.copy(0, 24, 1, 0, 0));
            check.due("28: INDEX, none behind the end", INDEX, x.copy(0, 25, 1, 0, 0));
            check.due("28: INDEX, none behind the other end", INDEX, x.copy(0, 0, 1, 25, 0));
            check.due("28: INDEX, one at the end", INDEX, x.copy(0, 24, 1, 0, 1));
            check.due("28: INDEX, one at the other end", INDEX, x.copy(0, 0, 1, 24, 1));
            check.due("28: nothing has come", 0, x.tried(1, lane, 0, 8, 0));
            check.due("28: the last one", 1, x.copy(0, 23, 1, 23, 1));
            check.due("28: all", 24, x.copy(0, 0, 1, 0, 24));
            int[] all = new int[24];
            for (int i = 0; i < 24; i++) {
                all[i] = i + 1;
            }
            dueItems("all", x, 1, lane, all);
            dueItems("those taken stay", x, 0, lane, all);
            check.due("28: all to itself", 24, x.copy(0, 0, 0, 0, 24));
            dueItems("to itself", x, 0, lane, all);
            check.due("28: INDEX, 25", INDEX, x.copy(0, 0, 1, 0, 25));
            x.sheet(1, lane, 0);
            check.due("28: none to none", 0, x.copy(1, 0, 1, 0, 0));
            check.due("28: none to an empty row", 0, x.copy(0, 24, 1, 0, 0));
            check.due("28: none of an empty row", 0, x.copy(1, 0, 0, 24, 0));
            check.due("28: INDEX, one of an empty row", INDEX, x.copy(1, 0, 0, 0, 1));
            check.due("28: INDEX, one to an empty row", INDEX, x.copy(0, 0, 1, 0, 1));
            check.due("28: INDEX, none behind it", INDEX, x.copy(1, 1, 1, 0, 0));
        }
    }

    /** To a shorter row and from one: up to the end of each. */
    private static void copyOfEachLength() {
        for (int i = 0; i <= 5; i++) {
            for (int j = 0; j <= 4; j++) {
                for (int n = 0; n <= 6; n++) {
                    WormHeap x = new WormHeap();
                    counted(x, 2, 1, 5);
                    x.sheet(1, 1, 4);
                    boolean fits = i + n <= 5 && j + n <= 4;
                    String of = n + " from " + i + " to " + j;
                    check.due("28: " + of, fits ? n : INDEX, x.copy(2, i, 1, j, n));
                    int[] due = new int[4];
                    for (int k = 0; k < n && fits; k++) {
                        due[j + k] = i + k + 1;
                    }
                    dueItems(of, x, 1, 1, due);
                    dueItems("taken, " + of, x, 2, 1, 1, 2, 3, 4, 5);
                }
            }
        }
    }

    /** "to another one (or the same) .., as if all were taken ahead". */
    private static void copyWithinOne() {
        for (int lane = 0; lane < 3; lane++) {
            for (int i = 0; i <= 6; i++) {
                for (int j = 0; j <= 6; j++) {
                    for (int n = 0; n <= 6 - Math.max(i, j); n++) {
                        WormHeap x = new WormHeap();
                        counted(x, 1, lane, 6);
                        String of = n + " from " + i + " to " + j + " within one";
                        check.due("28: " + of, n, x.copy(1, i, 1, j, n));
                        int[] due = {1, 2, 3, 4, 5, 6};
                        for (int k = 0; k < n; k++) {
                            due[j + k] = i + k + 1;
                        }
                        dueItems(of, x, 1, lane, due);
                    }
                }
            }
        }
    }

    private static void copyRefusesSheets() {
        for (int w : NO_SHEETS) {
            twins.unchanged("28: BAD, from " + w, EdgeSheetsTest::some, BAD, x -> x.copy(w, 0, 0, 0, 1));
            twins.unchanged("28: BAD, to " + w, EdgeSheetsTest::some, BAD, x -> x.copy(0, 0, w, 0, 1));
            twins.unchanged("28: BAD ahead of NULL, from " + w, EdgeSheetsTest::some, BAD, x -> x.copy(w, 0, 3, 0, 1));
            twins.unchanged("28: BAD ahead of NULL, to " + w, EdgeSheetsTest::some, BAD, x -> x.copy(3, 0, w, 0, 1));
            twins.unchanged("28: BAD ahead of INDEX " + w, EdgeSheetsTest::some, BAD, x -> x.copy(w, -1, 0, -1, -1));
        }
        twins.unchanged("28: NULL, from", EdgeSheetsTest::some, NULL, x -> x.copy(3, 0, 0, 0, 1));
        twins.unchanged("28: NULL, to", EdgeSheetsTest::some, NULL, x -> x.copy(0, 0, 3, 0, 1));
        twins.unchanged("28: NULL, either", EdgeSheetsTest::some, NULL, x -> x.copy(3, 0, 3, 0, 0));
        twins.unchanged("28: NULL ahead of INDEX", EdgeSheetsTest::some, NULL, x -> x.copy(3, -1, 0, 0, -1));
        twins.unchanged("28: NULL ahead of INDEX", EdgeSheetsTest::some, NULL, x -> x.copy(0, 0, 3, -1, -1));
        twins.unchanged("28: CAST, bytes to longs", EdgeSheetsTest::some, CAST, x -> x.copy(0, 0, 2, 0, 1));
        twins.unchanged("28: CAST, longs to bytes", EdgeSheetsTest::some, CAST, x -> x.copy(2, 0, 0, 0, 1));
        twins.unchanged("28: CAST, none of ints", EdgeSheetsTest::some, CAST, x -> x.copy(1, 0, 0, 0, 0));
        twins.unchanged("28: CAST ahead of INDEX", EdgeSheetsTest::some, CAST, x -> x.copy(0, -1, 2, 0, 1));
        twins.unchanged("28: CAST ahead of INDEX", EdgeSheetsTest::some, CAST, x -> x.copy(2, 0, 1, 0, 24));
        twins.unchanged("28: CAST ahead of INDEX", EdgeSheetsTest::some, CAST, x -> x.copy(0, 0, 1, 0, -1));
        for (int one = 0; one < 3; one++) {
            for (int other = 0; other < 3; other++) {
                WormHeap x = new WormHeap();
                x.sheet(0, one, 3);
                x.sheet(1, other, 3);
                check.due("28: LANES " + one + " " + other, one == other ? 3 : CAST, x.copy(0, 0, 1, 0, 3));
            }
        }
    }

    /** "INDEX (n below 0, too; with n 0, too, if i or j is below 0 or above how many there are)". */
    private static void copyRefusesIndexes() {
        Twins.Calls setup = x -> {
            some(x);
            Check.fill(x, 1, 2, 1, 2, 3, 4, 5);
        };
        int[][] wrong = {
            // i, j, n: of 24 items to 5
            {0, 0, -1}, {0, 0, LEAST}, {0, 0, LEAST + 1}, {24, 5, -1}, {5, 5, -5}, {1, 1, MOST}, {0, 0, MOST}, {0, 0, MOST - 4},
            {-1, 0, 0}, {0, -1, 0}, {25, 0, 0}, {0, 6, 0}, {-1, -1, 0}, {25, 6, 0}, {LEAST, 0, 0}, {0, LEAST, 0}, {MOST, 0, 0},
            {0, MOST, 0}, {-1, 0, 1}, {0, -1, 1}, {-1, 0, 2}, {0, -1, 2}, {24, 0, 1}, {0, 5, 1}, {0, 0, 6}, {0, 1, 5}, {20, 0, 5},
            {MOST, 0, 1}, {0, MOST, 1}, {MOST, MOST, 1}, {MOST, MOST, MOST}, {LEAST, LEAST, LEAST}, {LEAST, 0, MOST},
            {0, LEAST, MOST}, {MOST - 1, 0, 5}, {0, MOST - 1, 5}, {-5, 0, 5}, {0, -5, 5}, {1, 0, MOST - 1}, {23, 4, 2}};
        for (int[] w : wrong) {
            String of = "28: INDEX " + w[0] + " " + w[1] + " " + w[2];
            twins.unchanged(of, setup, INDEX, x -> x.copy(2, w[0], 1, w[1], w[2]));
        }
        twins.unchanged("28: INDEX within one", setup, INDEX, x -> x.copy(1, 1, 1, 0, 5));
        twins.unchanged("28: INDEX within one", setup, INDEX, x -> x.copy(1, 0, 1, 1, 5));
        twins.unchanged("28: none", setup, 0, x -> x.copy(2, 24, 1, 5, 0));
        twins.changed("28: all that fit", setup, 5, x -> x.copy(2, 19, 1, 0, 5), x -> Check.fill(x, 1, 2, 0, 0, 0, 0, 77));
    }
}
