/**
 * The bounds that the document names for promises 15 to 17: HAD, UNDER, OWN, sentence by sentence.
 */
final class EdgeSearchTest {
    private static final int LEAST = Integer.MIN_VALUE, MOST = Integer.MAX_VALUE;
    private static final int BAD = WormHeap.BAD, NOT = WormHeap.NOT, NONE = WormHeap.NONE;
    private static final Check check = new Check("EdgeSearchTest");
    private static final Twins twins = new Twins(check);

    private static void some(WormHeap x) {
        Check.heap(x, "c3@0,c2@0,c1@0,c1@0,c9@5,l9,c50t1@3,r51@3,c1");
        x.lift(5);
        x.image();
        Check.fill(x, 1, 0, 1, 2, 3);
        Check.write(x, "c7@3");
    }

    public static void main(String[] args) {
        hadByNoneToThree();
        hadRows();
        hadBySenses();
        hadOfTwelve();
        hadCodesAtTheirBounds();
        hadByTheFirstRow();
        hadBySwapsAhead();
        hadChangesNothing();
        hadRefuses();
        underBounds();
        underLeavesLeadOut();
        underAtAnyDepth();
        underRefuses();
        ownOfNone();
        ownOfTwelve();
        ownNeedsOneForEach();
        ownLeavesLeadOut();
        ownLeavesOthersOut();
        check.done();
    }

    private static void dueRow(String what, WormHeap x, int piece, int... row) {
        check.due("15: how many acts, " + what, row.length, x.had(piece, -1));
        for (int i = 0; i < 3; i++) {
            check.due("15: act " + i + ", " + what, i < row.length ? row[i] : NONE, x.had(piece, i));
        }
    }

    private static void dueNone(String what, WormHeap x, int piece) {
        for (int i = -1; i < 3; i++) {
            check.due("15: not in 3, " + i + ", " + what, NONE, x.had(piece, i));
        }
    }

    /** "the fewest acts (0 .. 3)": by lifts of what lies on it; "NONE: not in 3". */
    private static void hadByNoneToThree() {
        for (int place = 0; place < 6; place++) {
            int code = 100 * place;
            String at = "@" + place;
            WormHeap x = Check.made("c1" + at + ",c1" + at + ",c1" + at + ",c1" + at + ",c1");
            dueRow("it is in THE BAG", x, 4);
            dueRow("TOP of " + place, x, 3, code);
            dueRow("under one in " + place, x, 2, code, code);
            dueRow("under two in " + place, x, 1, code, code, code);
            dueNone("under three in " + place, x, 0);
            x.lift(place);
            dueRow("then under two in " + place, x, 0, code, code, code);
            dueRow("then in THE BAG", x, 3);
        }
    }

    /** "NONE: .. there is no i-th". */
    private static void hadRows() {
        WormHeap x = Check.made("c3@4,c3@4,c3@4,c3");
        int[][] due = {{3, 400, 400, 400}, {2, 400, 400, NONE}, {1, 400, NONE, NONE}, {0, NONE, NONE, NONE}};
        for (int piece = 0; piece < 4; piece++) {
            for (int i = -1; i < 3; i++) {
                check.due("15: had(" + piece + ", " + i + ")", due[piece][i + 1], x.had(piece, i));
            }
        }
    }

    /** "none of which is FELT": by its SENSE at most. */
    private static void hadBySenses() {
        for (int sense : new int[] {0, 1, 3, 50, 98, 99}) {
            WormHeap x = new WormHeap();
            x.sense(2, sense);
            if (sense > 0) {
                x.piece(0, sense, 0, 2);
                dueRow("a lift by " + sense, x, 0, 200);
            }
            WormHeap y = new WormHeap();
            y.sense(2, sense);
            y.piece(1, Math.max(1, sense - 1), 0, 2);
            dueNone("a lift above " + sense, y, 0);
            WormHeap z = new WormHeap();
            z.sense(2, sense);
            z.piece(1, 99, 0, 2);
            z.piece(2, Math.max(1, Math.min(99, 101 - sense)), 0, 6);
            if (sense >= 2) {
                dueRow("a swap by " + sense, z, 0, 2201);
            } else {
                dueNone("a swap above " + sense, z, 0);
            }
            WormHeap w = new WormHeap();
            w.sense(2, sense);
            w.piece(1, 99, 0, 2);
            w.piece(2, Math.max(1, 100 - sense), 0, 6);
            dueNone("a swap by more than " + sense, w, 0);
        }
    }

    /** Of twelve in one PLACE: the three uppermost ones only. */
    private static void hadOfTwelve() {
        WormHeap x = new WormHeap();
        for (int i = 0; i < 12; i++) {
            x.piece(3, 3, 0, 5);
        }
        dueRow("of twelve", x, 11, 500);
        dueRow("of twelve", x, 10, 500, 500);
        dueRow("of twelve", x, 9, 500, 500, 500);
        for (int piece = 0; piece < 9; piece++) {
            dueNone("of twelve, " + piece, x, piece);
        }
        WormHeap bag = Check.made("c1,c1,c1,c1,c1,c1,c1,c1,c1,c1,c1,c1");
        dueRow("the last of twelve in THE BAG", bag, 11);
        check.due("15: no thirteenth", BAD, bag.had(12, -1));
    }

    /** "of TO LIFT 100 times the PLACE; .. of TO SWAP 2000, 100 times the PLACE and the PIECE that is laid". */
    private static void hadCodesAtTheirBounds() {
        dueRow("the least lift", Check.made("c3@0"), 0, 0);
        dueRow("the greatest lift", Check.made("c3@5"), 0, 500);
        dueRow("the least swap", Check.made("c9,c9@0"), 1, 2000);
        dueRow("the greatest swap", Check.made("c1,c1,c1,c1,c1,c1,c1,c1,c1,c1,c50@5,c50"), 10, 2511);
        dueRow("the last of twelve", Check.made("c1,c1,c1,c1,c1,c1,c1,c1,c1,c1,c50,c50@5"), 11, 2510);
        for (int place = 0; place < 6; place++) {
            for (int piece = 1; piece < 12; piece++) {
                StringBuilder heap = new StringBuilder("c50@" + place);
                for (int i = 1; i < 12; i++) {
                    heap.append(i == piece ? ",l50" : ",l9");
                }
                dueRow("swap in " + place + " for " + piece, Check.made(heap.toString()), 0, 2000 + 100 * place + piece);
            }
        }
    }

    /** "of like ones the first as a row of CODES". */
    private static void hadByTheFirstRow() {
        dueRow("a lift ahead of a swap", Check.made("c3@1,c3"), 0, 100);
        dueRow("the first PIECE for it", Check.made("c9,c9@1,c9,c9"), 1, 2100);
        dueRow("the first that is near enough", Check.made("c5,c9@1,c6,c12,c9"), 1, 2102);
        dueRow("the first PLACE to fetch from", Check.made("c1@5,c9@1,c1@5,c7@2,c3@3,c8@4,c7@0"), 0, 500, 500);
        WormHeap x = Check.made("c30@1,c30@4,c30@2,c30@3");
        x.sense(2, 30);
        x.sense(3, 30);
        x.sense(4, 30);
        dueRow("the first PLACE of three", x, 0, 200, 2102);
        x.sense(2, 29);
        dueRow("the first PLACE of two", x, 0, 300, 2103);
        x.sense(3, 29);
        dueRow("the last PLACE", x, 0, 400, 2101);
        x.sense(4, 29);
        dueNone("no PLACE", x, 0);
        // Lifts of what lies on it come ahead of swaps for it, and what was lifted can be laid.
        WormHeap y = Check.made("c9@1,c3@1,c9");
        dueRow("lift, then swap", y, 0, 100, 2102);
        WormHeap z = Check.made("c9@1,c9@1,c9,c10");
        dueRow("the uppermost by a swap", z, 1, 2102);
        dueNone("a swap uncovers nothing", z, 0);
        WormHeap w = Check.made("c3@0,c3@0,c3@1");
        dueRow("the lift from its own PLACE is needed twice", w, 0, 0, 0);
    }

    /** What is near enough is fetched by swaps for what is near enough to it: one, two, three of them; four are too many. */
    private static void hadBySwapsAhead() {
        dueRow("one swap", Check.made("k20@5,l25"), 0, 2501);
        dueRow("two swaps", Check.made("k20@5,l25@1,l28"), 0, 2102, 2501);
        dueRow("three swaps", Check.made("k20@5,l25@1,l28@2,l31"), 0, 2203, 2102, 2501);
        dueNone("four swaps", Check.made("k20@5,l25@1,l28@2,l31@3,l34"), 0);
        dueRow("one swap, lighter ones", Check.made("k20@5,l19"), 0, 2501);
        dueRow("two swaps, lighter ones", Check.made("k20@5,l19@1,l16"), 0, 2102, 2501);
        dueRow("three swaps, lighter ones", Check.made("k20@5,l19@1,l16@2,l13"), 0, 2203, 2102, 2501);
        dueNone("four swaps, lighter ones", Check.made("k20@5,l19@1,l16@2,l13@3,l10"), 0);
        dueNone("one swap that is felt", Check.made("k20@5,l26"), 0);
        dueNone("the second of two is felt", Check.made("k20@5,l26@1,l28"), 0);
        dueNone("the first of two is felt", Check.made("k20@5,l25@1,l29"), 0);
        dueNone("the first of three is felt", Check.made("k20@5,l25@1,l28@2,l32"), 0);
        // A lift ahead: of what lies on it, or of what is laid.
        dueRow("lift, then swap", Check.made("k20@5,c1@5,l25"), 0, 500, 2502);
        dueRow("lift, then two swaps", Check.made("k20@5,c1@5,l25@1,l28"), 0, 500, 2103, 2502);
        dueRow("two lifts, then swap", Check.made("k20@5,c1@5,c2@5,l25"), 0, 500, 500, 2503);
        dueNone("three lifts, then swap", Check.made("k20@5,c1@5,c2@5,c3@5,l25"), 0);
        dueNone("two lifts, then two swaps", Check.made("k20@5,c1@5,c2@5,l25@1,l28"), 0);
        WormHeap x = Check.made("k20@5,l22@1,c3@1,c40@2");
        x.sense(1, 22);
        dueRow("two lifts elsewhere, then swap", x, 0, 100, 100, 2501);
        x.sense(2, 38);
        dueRow("the other way about is no shorter", x, 0, 100, 100, 2501);
        x.sense(1, 21);
        dueRow("a lift that is felt is a swap", x, 0, 100, 2102, 2501);
        x.sense(1, 19);
        dueRow("by its sense", x, 0, 100, 2102, 2501);
        x.sense(1, 18);
        dueNone("what is to be laid can be had by four only", x, 0);
    }

    private static void hadChangesNothing() {
        for (int piece = 0; piece < 8; piece++) {
            for (int i = -1; i < 3; i++) {
                int p = piece;
                int at = i;
                WormHeap x = new WormHeap();
                some(x);
                int due = x.had(piece, i);
                check.due("15: the same answer again", due, x.had(piece, i));
                twins.unchanged("15: had(" + piece + ", " + i + ")", EdgeSearchTest::some, due, y -> y.had(p, at));
            }
        }
    }

    private static void hadRefuses() {
        for (int piece : new int[] {-1, 9, 11, 12, LEAST, MOST}) {
            twins.unchanged("15: BAD had(" + piece + ", -1)", EdgeSearchTest::some, BAD, x -> x.had(piece, -1));
            twins.unchanged("15: BAD had(" + piece + ", 0)", EdgeSearchTest::some, BAD, x -> x.had(piece, 0));
        }
        for (int i : new int[] {-2, 3, LEAST, MOST}) {
            twins.unchanged("15: BAD had(3, " + i + ")", EdgeSearchTest::some, BAD, x -> x.had(3, i));
            twins.unchanged("15: BAD ahead of NOT, had(8, " + i + ")", EdgeSearchTest::some, BAD, x -> x.had(8, i));
            twins.unchanged("15: BAD ahead of NONE, had(6, " + i + ")", EdgeSearchTest::some, BAD, x -> x.had(6, i));
            twins.unchanged("15: BAD of one in THE BAG, " + i, EdgeSearchTest::some, BAD, x -> x.had(5, i));
        }
        for (int i = -1; i < 3; i++) {
            int at = i;
            twins.unchanged("15: NOT, it is EATEN, " + i, EdgeSearchTest::some, NOT, x -> x.had(8, at));
            twins.unchanged("15: NONE, not in 3, " + i, EdgeSearchTest::some, NONE, x -> x.had(6, at));
            twins.unchanged("15: NONE, under three, " + i, EdgeSearchTest::some, NONE, x -> x.had(0, at));
        }
        check.due("15: BAD, no piece", BAD, new WormHeap().had(0, -1));
        check.due("15: BAD, no piece", BAD, new WormHeap().had(11, 0));
    }

    private static void dueUnder(String heap, int... due) {
        WormHeap x = heap.isEmpty() ? new WormHeap() : Check.made(heap);
        for (int town = 0; town < 4; town++) {
            check.due("16: under(" + town + ") of " + heap, due[town], x.under(town));
        }
    }

    /** "how many pairs": none, one, and as many as twelve can make. */
    private static void underBounds() {
        dueUnder("", 0, 0, 0, 0);
        dueUnder("c1", 0, 0, 0, 0);
        dueUnder("c1t3@5", 0, 0, 0, 0);
        dueUnder("c1t0@0,c1t1@0", 1, 0, 0, 0);
        dueUnder("c1t1@0,c1t0@0", 0, 1, 0, 0);
        dueUnder("c1t0@0,c1t0@0", 0, 0, 0, 0);
        dueUnder("c1t0@0,c1t1@1", 0, 0, 0, 0);
        dueUnder("c1t0@0,c1t1", 0, 0, 0, 0);
        String low = "c1t3@5,c1t3@5,c1t3@5,c1t3@5,c1t3@5,c1t3@5";
        dueUnder(low + "," + low.replace("t3", "t0"), 0, 0, 0, 36);
        dueUnder(low + "," + low, 0, 0, 0, 0);
        String suits = "c1t0@2,c1t1@2,c1t2@2,c1t3@2";
        dueUnder(suits + "," + suits + "," + suits, 18, 15, 12, 9);
        dueUnder("c1t0@0,k1t1@0,c1t0@5,r1t2@5,c1t0@3,c1t3@3", 3, 0, 0, 0);
    }

    /** "(LEAD is nobody's, counts for nothing)". */
    private static void underLeavesLeadOut() {
        dueUnder("c1t0@0,l1t1@0", 0, 0, 0, 0);
        dueUnder("l1t0@0,c1t1@0", 0, 0, 0, 0);
        dueUnder("l1t0@0,l1t1@0", 0, 0, 0, 0);
        dueUnder("c1t0@0,l1t1@0,c1t1@0", 1, 0, 0, 0);
        dueUnder("c1t2@0,l1t2@0,l1t3@0,r1t2@0,k1t3@0", 0, 0, 2, 0);
    }

    private static void underAtAnyDepth() {
        dueUnder("c1t0@0,c1t0@0,c1t1@0", 2, 0, 0, 0);
        dueUnder("c1t0@0,c1t1@0,c1t0@0,c1t1@0", 3, 1, 0, 0);
        WormHeap x = Check.made("c1t0@0,c1t1@0,c1t0@0,c1t1@0,c1t0,c1t2");
        x.turn();
        check.due("16: turned", 1, x.under(0));
        check.due("16: turned", 3, x.under(1));
        check.due("11: laid on them", 5, x.lay(5, 5));
        check.due("16: under it", 3, x.under(0));
        check.due("16: under it", 5, x.under(1));
        check.due("16: the uppermost", 0, x.under(2));
        check.due("10: lifted", 5, x.lift(5));
        check.due("16: as before", 1, x.under(0));
    }

    private static void underRefuses() {
        for (int town : new int[] {-1, 4, 5, LEAST, MOST}) {
            twins.unchanged("16: BAD under(" + town + ")", EdgeSearchTest::some, BAD, x -> x.under(town));
            check.due("16: BAD, no piece", BAD, new WormHeap().under(town));
        }
    }

    /** Whichever TOWNS they are, and in whichever order the PIECES came: OWN is the same. */
    private static void dueOwn(String heap, int due) {
        for (int order = 0; order < 256; order++) {
            int[] towns = {order & 3, order >> 2 & 3, order >> 4 & 3, order >> 6 & 3};
            int all = 1 << towns[0] | 1 << towns[1] | 1 << towns[2] | 1 << towns[3];
            if (all == 15) {
                StringBuilder forth = new StringBuilder();
                StringBuilder back = new StringBuilder();
                for (String piece : heap.split(",")) {
                    int town = piece.indexOf('t') > 0 ? piece.charAt(piece.indexOf('t') + 1) - '0' : 0;
                    String word = piece.split("[t@]")[0] + "t" + towns[town]
                        + (piece.indexOf('@') > 0 ? piece.substring(piece.indexOf('@')) : "");
                    forth.append(forth.length() > 0 ? "," : "").append(word);
                    back.insert(0, back.length() > 0 ? "," : "").insert(0, word);
                }
                check.due("17: own of " + forth, due, Check.made(forth.toString()).own());
                check.due("17: own of " + back, due, Check.made(back.toString()).own());
            }
        }
    }

    private static void ownOfNone() {
        check.due("17: no piece", 0, new WormHeap().own());
        dueOwn("c1", 0);
        dueOwn("c1,c1t1,c1t2,c1t3", 0);
        dueOwn("c1t3@5", 0);
        WormHeap x = Check.made("c1t0@0,c1t1@0");
        check.due("17: one astray", 1, x.own());
        x.lift(0);
        check.due("17: one in THE BAG", 0, x.own());
        x.lift(0);
        check.due("17: both in THE BAG", 0, x.own());
    }

    private static void ownOfTwelve() {
        String suits = "c1t0@2,c1t1@2,c1t2@2,c1t3@2";
        // Place 2 is one town's; the three others have an empty one each.
        dueOwn(suits + "," + suits + "," + suits, 9);
        String all = "c1t0@0,c1t0@1,c1t0@2,c1t0@3,c1t0@4,c1t0@5";
        dueOwn(all + "," + all, 0);
        dueOwn(all + "," + all.replace("t0", "t1"), 6);
        dueOwn("c1t0@0,c1t1@1,c1t2@2,c1t3@3,c1t0@4,c1t1@5,c1t0@0,c1t1@1,c1t2@2,c1t3@3,c1t0@4,c1t1@5", 0);
        dueOwn("c1t0@0,c1t1@0,c1t2@1,c1t3@1,c1t0@2,c1t2@2,c1t1@3,c1t3@3,c1t0@4,c1t3@4,c1t1@5,c1t2@5", 6);
        dueOwn("c1t3@0,c1t3@0,c1t3@0,c1t3@0,c1t3@0,c1t3@0,c1t2@0,c1t1@0,c1t0@0,c1t3@1,c1t3@2,c1t3@3", 4);
    }

    /** "one TOWN may have several, each that has PIECES in PLACES has one at least". */
    private static void ownNeedsOneForEach() {
        dueOwn("c1t0@0,c1t0@1,c1t0@2,c1t0@3,c1t0@4,c1t0@5", 0);
        dueOwn("c1t0@0,c1t0@1,c1t0@2,c1t0@3,c1t0@4,c1t1@4", 1);
        dueOwn("c1t0@0,c1t0@1,c1t0@2,c1t0@3,c1t0@4,c1t0@5,c1t1@5", 1);
        dueOwn("c1t0@0,c1t0@1,c1t0@2,c1t0@3,c1t0@4,c1t0@5,c1t0@5,c1t1@5", 2);
        dueOwn("c1t0@0,c1t0@1,c1t0@2,c1t0@3,c1t0@4,c1t0@5,c1t1@5,c1t2@5,c1t3@5", 5);
        dueOwn("c1t0@0,c1t1@0,c1t2@0,c1t3@0,c1t0@1,c1t1@1,c1t2@1,c1t3@1", 6);
        dueOwn("c1t0@0,c1t1@0,c1t1@0,c1t0@1,c1t1@1,c1t1@1", 2);
    }

    private static void ownLeavesLeadOut() {
        dueOwn("l1t0@0,l1t1@0,l1t2@0", 0);
        dueOwn("l1t0@0,l1t0@0,c1t1@0", 0);
        dueOwn("c1t0@0,c1t0@1,c1t0@2,c1t0@3,c1t0@4,c1t0@5,l1t1@5", 0);
        dueOwn("l1t0@0,l1t1@1,l1t2@2,l1t3@3,l1t0@4,l1t1@5,c1t0@0,c1t1@0", 1);
    }

    /** Only what lies in PLACES counts, and only its TOWNS need one. */
    private static void ownLeavesOthersOut() {
        dueOwn("c1t0@0,c1t0@1,c1t0@2,c1t0@3,c1t0@4,c1t0@5,c1t1,c1t2,r1t3", 0);
        WormHeap x = Check.made("c9t0@0,c9t0@1,c9t0@2,c9t0@3,c9t0@4,c9t0@5,c1t1@5,c1t1");
        check.due("17: one astray", 1, x.own());
        check.due("10: into THE BAG", 6, x.lift(5));
        check.due("17: none astray", 0, x.own());
        check.due("10: FELT", WormHeap.FULL, x.lift(5));
        check.due("17: none by what was EATEN", 0, x.own());
        twins.unchanged("17: OWN", EdgeSearchTest::some, 1, WormHeap::own);
        twins.unchanged("17: OWN of none", y -> { }, 0, WormHeap::own);
    }
}
