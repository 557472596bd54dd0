/**
 * The bounds that the document names for promises 1 to 5 and 9 and section 1, sentence by sentence: the smallest, the
 * largest, the first beyond each, the empty, the full, and what is refused.
 */
final class EdgePiecesTest {
    private static final int LEAST = Integer.MIN_VALUE, MOST = Integer.MAX_VALUE;
    private static final int BAD = WormHeap.BAD, FULL = WormHeap.FULL;
    private static final Check check = new Check("EdgePiecesTest");
    private static final Twins twins = new Twins(check);
    /** One piece of every kind, in places 0 and 5 and in the bag; one was eaten; an image, sheets, a tape. */
    private static final Twins.Calls SOME = EdgePiecesTest::some;

    static void some(WormHeap x) {
        Check.heap(x, "c5@0,k5t1@0,r4t2@5,l9t3,c2,r1t3,c4@0");
        x.lift(0);
        x.sense(1, 0);
        x.sense(4, 99);
        x.image();
        x.sense(2, 50);
        x.piece(1, 7, 2, 5);
        Check.fill(x, 0, 0, 1, 2, 3);
        Check.fill(x, 1, 1);
        Check.fill(x, 2, 2, 9, 1, 8, 0, 7, 0, 5);
        Check.write(x, "c7@3,k5");
    }

    static void twelve(WormHeap x) {
        Check.heap(x, "c1@0,c2@0,c3@0,c4@5,c5@5,k6@1,l7@2,r8@3,c9,k10,l11,r12");
    }

    public static void main(String[] args) {
        aNewObjectIsEmpty();
        objectsShareNothing();
        the512thCallIsAnswered();
        pieceTakesItsBounds();
        pieceRefuses();
        pieceIsFullAtTwelve();
        pieceNumbersAsTheyCome();
        pieceIsNoAct();
        kindsWeigh();
        leadIsNobodys();
        toldOfBounds();
        toldRefuses();
        offFromNoneToEleven();
        ofBounds();
        ofRefuses();
        senseTakesItsBounds();
        senseRefuses();
        countOfEmptyAndFull();
        countRefuses();
        check.done();
    }

    /** "Six empty places"; SENSE "3 at first"; sheets "nothing (at first)". */
    private static void aNewObjectIsEmpty() {
        WormHeap x = new WormHeap();
        for (int place = 0; place < 6; place++) {
            check.due("1: LOAD of " + place, 0, x.of(place, 0));
            check.due("1: PIECES of " + place, 0, x.of(place, 1));
            check.due("1: SENSE of " + place, 3, x.of(place, 2));
            check.due("1: TOP of " + place, 12, x.of(place, 3));
            check.due("1: none lies in " + place, WormHeap.NOT, x.lift(place));
        }
        check.due("1: no seventh place", BAD, x.of(6, 0));
        check.due("1: no place below 0", BAD, x.of(-1, 0));
        check.due("1: no piece 0", BAD, x.told(0, 0));
        for (int what = 0; what < 6; what++) {
            check.due("1: count(" + what + ")", 0, x.count(what));
        }
        for (int sheet = 0; sheet < 4; sheet++) {
            check.due("1: sheet " + sheet + " holds nothing", WormHeap.NULL, x.drop(sheet));
        }
        check.due("1: no image", WormHeap.NONE, x.restore());
        check.due("1: no piece to weigh for a town", 0, x.under(0));
        check.due("1: none astray", 0, x.own());
        check.due("1: none turned", 0, x.turn());
        check.due("1: no byte on the tape, so an empty HEAP", -20, x.heap());
        check.due("1: no byte on the tape, so an empty NIGHT", -20, x.night());
        check.due("1: the first byte is the first", 1, x.type('c', 1));
    }

    private static void objectsShareNothing() {
        WormHeap used = new WormHeap();
        some(used);
        twins.same("1: a new object beside a used one", new WormHeap(), new WormHeap());
        check.due("1: nor does the used one lose by it", 8, used.count(0));
    }

    /** "An object is used for at most 512 calls": the last of them is one like the others. */
    private static void the512thCallIsAnswered() {
        WormHeap x = new WormHeap();
        int was = 3;
        for (int i = 1; i <= 512; i++) {
            check.due("5: call " + i, was, x.sense(5, i * 7 % 100));
            was = i * 7 % 100;
        }
    }

    /** KIND 0 .. 3, WEIGHT 1 .. 99, TOWN 0 .. 3, PLACE 0 .. 5 or 6. */
    private static void pieceTakesItsBounds() {
        int[][] taken = {{0, 1, 0, 0}, {3, 1, 0, 0}, {0, 99, 0, 0}, {0, 1, 3, 0}, {0, 1, 0, 5}, {0, 1, 0, 6}, {3, 99, 3, 6},
            {1, 99, 3, 5}, {2, 99, 3, 5}};
        for (int[] t : taken) {
            WormHeap x = new WormHeap();
            String call = "piece(" + t[0] + ", " + t[1] + ", " + t[2] + ", " + t[3] + ")";
            check.due("2: " + call, 0, x.piece(t[0], t[1], t[2], t[3]));
            check.due("2: KIND by " + call, t[0], x.told(0, 0));
            check.due("2: weighs by " + call, t[0] == 1 ? t[1] + 2 : t[1], x.told(0, 1));
            check.due("2: TOWN by " + call, t[0] == 2 ? 4 : t[2], x.told(0, 2));
            check.due("2: PLACE by " + call, t[3], x.told(0, 3));
            check.due("2: in THE BAG by " + call, t[3] == 6 ? 1 : 0, x.count(1));
            check.due("2: none of a next one", BAD, x.told(1, 0));
        }
    }

    private static void pieceRefuses() {
        int[][] firstBeyond = {{-1, 1, 0, 0}, {4, 1, 0, 0}, {0, 0, 0, 0}, {0, 100, 0, 0}, {0, 1, -1, 0}, {0, 1, 4, 0},
            {0, 1, 0, -1}, {0, 1, 0, 7}};
        for (int[] b : firstBeyond) {
            String call = "2: BAD piece(" + b[0] + ", " + b[1] + ", " + b[2] + ", " + b[3] + ")";
            twins.unchanged(call, SOME, BAD, x -> x.piece(b[0], b[1], b[2], b[3]));
            twins.unchanged(call + ", the first", x -> { }, BAD, x -> x.piece(b[0], b[1], b[2], b[3]));
            twins.unchanged(call + " ahead of FULL", EdgePiecesTest::twelve, BAD, x -> x.piece(b[0], b[1], b[2], b[3]));
        }
        for (int far : new int[] {LEAST, LEAST + 1, -256, 256, 257, 65536, 65537, MOST - 1, MOST}) {
            twins.unchanged("2: BAD, KIND " + far, SOME, BAD, x -> x.piece(far, 1, 0, 0));
            twins.unchanged("2: BAD, WEIGHT " + far, SOME, BAD, x -> x.piece(0, far, 0, 0));
            twins.unchanged("2: BAD, TOWN " + far, SOME, BAD, x -> x.piece(0, 1, far, 0));
            twins.unchanged("2: BAD, PLACE " + far, SOME, BAD, x -> x.piece(0, 1, 0, far));
        }
    }

    private static void pieceIsFullAtTwelve() {
        for (int place = 0; place <= 6; place++) {
            WormHeap x = new WormHeap();
            for (int i = 0; i < 12; i++) {
                check.due("2: number " + i + " into " + place, i, x.piece(0, 1, 0, place));
            }
            check.due("2: FULL with twelve in " + place, FULL, x.piece(0, 1, 0, place));
            check.due("2: FULL elsewhere, too", FULL, x.piece(0, 1, 0, (place + 1) % 7));
            check.due("2: there are twelve", 12, x.count(0));
        }
        twins.unchanged("2: FULL", EdgePiecesTest::twelve, FULL, x -> x.piece(0, 1, 0, 0));
        twins.unchanged("2: FULL, into THE BAG", EdgePiecesTest::twelve, FULL, x -> x.piece(3, 99, 3, 6));
        WormHeap eaten = new WormHeap();
        twelve(eaten);
        eaten.sense(0, 0);
        check.due("2: felt", FULL, eaten.lift(0));
        check.due("2: one of twelve is EATEN", 1, eaten.count(2));
        check.due("2: an EATEN one is a PIECE still: FULL", FULL, eaten.piece(0, 1, 0, 0));
        check.due("2: a HEAP of eleven", 11, Check.heap(eaten, "c1,c1,c1,c1,c1,c1,c1,c1,c1,c1,c1"));
        check.due("2: the twelfth", 11, eaten.piece(0, 1, 0, 0));
        check.due("2: and no thirteenth", FULL, eaten.piece(0, 1, 0, 0));
    }

    /** "PIECES 0 .. 11, as they come"; "the TOP last". */
    private static void pieceNumbersAsTheyCome() {
        WormHeap x = Check.made("c9@2,c8@2,c7");
        check.due("2: behind those of a HEAP", 3, x.piece(3, 6, 1, 2));
        check.due("2: the TOP is the last", 3, x.of(2, 3));
        check.due("2: what lay there lies under it", 1, x.told(1, 4));
        check.due("2: the next", 4, x.piece(0, 5, 1, 6));
        check.due("2: THE BAG is no PLACE", 3, x.of(2, 3));
        check.due("2: nothing is on one in THE BAG", 0, x.told(2, 4));
    }

    private static void pieceIsNoAct() {
        WormHeap x = new WormHeap();
        x.sense(0, 0);
        check.due("2: a heavy one where it feels all", 0, x.piece(1, 99, 0, 0));
        check.due("2: that is not FELT", 0, x.count(3));
        check.due("2: and lies there", 101, x.of(0, 0));
    }

    /** COIN weighs its WEIGHT, CUP 2 more, LEAD and RUBY their WEIGHT. */
    private static void kindsWeigh() {
        int[] more = {0, 2, 0, 0};
        for (int kind = 0; kind < 4; kind++) {
            for (int weight : new int[] {1, 2, 98, 99}) {
                WormHeap x = new WormHeap();
                x.piece(kind, weight, 0, 4);
                check.due("3: KIND " + kind + " of " + weight, weight + more[kind], x.told(0, 1));
                check.due("4: LOAD by KIND " + kind, weight + more[kind], x.of(4, 0));
                check.due("9: in PLACES by KIND " + kind, weight + more[kind], x.count(4));
                check.due("9: in THE BAG none", 0, x.count(5));
            }
        }
    }

    /** LEAD "is nobody's, whatever TOWN is told". */
    private static void leadIsNobodys() {
        for (int town = 0; town < 4; town++) {
            WormHeap x = new WormHeap();
            x.piece(2, 5, town, 6);
            check.due("3: LEAD of TOWN " + town, 4, x.told(0, 2));
            x.piece(3, 5, town, 6);
            check.due("3: a RUBY of TOWN " + town, town, x.told(1, 2));
            x.piece(1, 5, town, 6);
            check.due("3: a CUP of TOWN " + town, town, x.told(2, 2));
            x.piece(0, 5, town, 6);
            check.due("3: a COIN of TOWN " + town, town, x.told(3, 2));
            x = Check.made("l5t" + town + ",r5t" + town);
            check.due("3: LEAD of a HEAP, TOWN " + town, 4, x.told(0, 2));
            check.due("3: a RUBY of a HEAP, TOWN " + town, town, x.told(1, 2));
        }
    }

    /** 3: "its PLACE (6: in THE BAG, 7: EATEN), 4 OFF (0 where it is in none)". */
    private static void toldOfBounds() {
        WormHeap x = Check.made("c9@0,c1,c2@5,r1");
        check.due("3: PLACE 0", 0, x.told(0, 3));
        check.due("3: in THE BAG", 6, x.told(1, 3));
        check.due("3: PLACE 5", 5, x.told(2, 3));
        check.due("3: OFF in THE BAG", 0, x.told(1, 4));
        check.due("3: felt", FULL, x.lift(0));
        check.due("3: EATEN", 7, x.told(1, 3));
        check.due("3: OFF of the EATEN", 0, x.told(1, 4));
        check.due("3: KIND of the EATEN", 0, x.told(1, 0));
        check.due("3: what the EATEN weighed", 1, x.told(1, 1));
        check.due("3: TOWN of the EATEN", 0, x.told(1, 2));
        check.due("3: the RUBY is in THE BAG", 6, x.told(3, 3));
        WormHeap buried = Check.made("c1,c2,c9@0,c9@0,c9@0,c9@0,c9@0,c9@0,c9@0,c9@0,c9@0,c9@0");
        check.due("3: felt", FULL, buried.lift(0));
        check.due("3: OFF of the EATEN of twelve", 0, buried.told(0, 4));
        check.due("3: OFF in THE BAG of twelve", 0, buried.told(1, 4));
        check.due("3: OFF of the lowest of twelve", 9, buried.told(2, 4));
        WormHeap full = new WormHeap();
        twelve(full);
        check.due("3: the first of twelve", 0, full.told(0, 0));
        check.due("3: the last of twelve", 3, full.told(11, 0));
        check.due("3: the first that there is not", BAD, full.told(12, 0));
    }

    private static void toldRefuses() {
        check.due("3: no piece", BAD, new WormHeap().told(0, 0));
        check.due("3: no piece", BAD, new WormHeap().told(11, 4));
        for (int piece : new int[] {-1, 8, 11, 12, LEAST, MOST}) {
            twins.unchanged("3: BAD told(" + piece + ", 3)", SOME, BAD, x -> x.told(piece, 3));
        }
        for (int what : new int[] {-1, 5, LEAST, MOST}) {
            twins.unchanged("3: BAD told(0, " + what + ")", SOME, BAD, x -> x.told(0, what));
            check.due("3: BAD, neither", BAD, new WormHeap().told(0, what));
        }
    }

    private static void offFromNoneToEleven() {
        for (int place : new int[] {0, 5}) {
            WormHeap x = new WormHeap();
            for (int i = 0; i < 12; i++) {
                x.piece(0, 1, 0, place);
            }
            for (int i = 0; i < 12; i++) {
                check.due("3: OFF of " + i + " in " + place, 11 - i, x.told(i, 4));
            }
            check.due("10: the TOP", 11, x.lift(place));
            check.due("3: OFF, one less", 10, x.told(0, 4));
            check.due("3: the TOP then", 0, x.told(10, 4));
            check.due("3: in THE BAG then", 0, x.told(11, 4));
            x.turn();
            check.due("3: OFF, turned", 0, x.told(0, 4));
            check.due("3: OFF, turned", 10, x.told(10, 4));
        }
    }

    /** "0 LOAD, 1 how many PIECES, 2 SENSE, 3 the TOP (12: none)". */
    private static void ofBounds() {
        WormHeap x = new WormHeap();
        for (int i = 0; i < 12; i++) {
            check.due("4: TOP ahead", i == 0 ? 12 : i - 1, x.of(5, 3));
            x.piece(1, 99, 3, 5);
            check.due("4: LOAD", 101 * (i + 1), x.of(5, 0));
            check.due("4: how many", i + 1, x.of(5, 1));
            check.due("4: TOP", i, x.of(5, 3));
        }
        check.due("4: the others are empty", 0, x.of(4, 0) + x.of(0, 0) + x.of(4, 1) + x.of(0, 1));
        check.due("4: no TOP there", 12, x.of(4, 3));
        x.sense(5, 99);
        x.sense(0, 0);
        check.due("4: SENSE 99", 99, x.of(5, 2));
        check.due("4: SENSE 0", 0, x.of(0, 2));
        WormHeap one = Check.made("c3@0");
        one.lift(0);
        check.due("4: empty again", 12, one.of(0, 3));
        check.due("4: LOAD 0 again", 0, one.of(0, 0));
        check.due("4: none again", 0, one.of(0, 1));
    }

    private static void ofRefuses() {
        for (int wrong : new int[] {-1, 6, 7, LEAST, MOST}) {
            twins.unchanged("4: BAD of(" + wrong + ", 0)", SOME, BAD, x -> x.of(wrong, 0));
        }
        for (int wrong : new int[] {-1, 4, LEAST, MOST}) {
            twins.unchanged("4: BAD of(0, " + wrong + ")", SOME, BAD, x -> x.of(0, wrong));
        }
    }

    /** "a SENSE (0 .. 99; 3 at first)"; "what it was". */
    private static void senseTakesItsBounds() {
        for (int place = 0; place < 6; place++) {
            WormHeap x = new WormHeap();
            check.due("5: 3 at first", 3, x.sense(place, 99));
            check.due("5: it was 99", 99, x.sense(place, 0));
            check.due("5: it was 0", 0, x.sense(place, 1));
            check.due("5: it was 1", 1, x.sense(place, 1));
            check.due("5: it is 1", 1, x.of(place, 2));
            for (int other = 0; other < 6; other++) {
                check.due("5: the others' stay", other == place ? 1 : 3, x.of(other, 2));
            }
        }
        WormHeap z = Check.made("k97@0,k98@1");
        z.sense(0, 99);
        z.sense(1, 99);
        check.due("5: 99 is not FELT by 99", 0, z.lift(0));
        check.due("5: 100 is", FULL, z.lift(1));
        WormHeap y = Check.made("c1@2,c1");
        y.sense(2, 0);
        check.due("5: 1 is FELT by 0", FULL, y.lift(2));
        y.piece(0, 1, 0, 6);
        check.due("5: none is not", 0, y.swap(2, 2));
        check.due("5: SENSE is no act", 1, y.count(3));
    }

    private static void senseRefuses() {
        for (int wrong : new int[] {-1, 6, 7, LEAST, MOST}) {
            twins.unchanged("5: BAD sense(" + wrong + ", 1)", SOME, BAD, x -> x.sense(wrong, 1));
        }
        for (int wrong : new int[] {-1, 100, 256, LEAST, MOST}) {
            twins.unchanged("5: BAD sense(0, " + wrong + ")", SOME, BAD, x -> x.sense(0, wrong));
            twins.unchanged("5: BAD sense(4, " + wrong + ")", SOME, BAD, x -> x.sense(4, wrong));
        }
    }

    private static void dueCounts(String when, WormHeap x, int... due) {
        for (int what = 0; what < 6; what++) {
            check.due("9: count(" + what + ") " + when, due[what], x.count(what));
        }
    }

    /** "0 PIECES, 1 in THE BAG, 2 EATEN, 3 how often it was AWAKE, 4 what all in PLACES weigh, 5 in THE BAG". */
    private static void countOfEmptyAndFull() {
        dueCounts("of nothing", new WormHeap(), 0, 0, 0, 0, 0, 0);
        WormHeap bag = new WormHeap();
        WormHeap place = new WormHeap();
        for (int i = 0; i < 12; i++) {
            bag.piece(1, 99, 0, 6);
            place.piece(1, 99, 0, i % 6);
        }
        dueCounts("of a full bag", bag, 12, 12, 0, 0, 0, 1212);
        dueCounts("of full places", place, 12, 0, 0, 0, 1212, 0);
        WormHeap eaten = Check.made("c4@0,c1,c1,c1,c1,c1,c1,c1,c1,c1,c1,c1");
        for (int i = 1; i <= 11; i++) {
            check.due("9: felt", FULL, eaten.lift(0));
            dueCounts("EATEN " + i, eaten, 12, 11 - i, i, i, 4, 11 - i);
        }
        check.due("9: felt, none in THE BAG", FULL, eaten.lift(0));
        dueCounts("AWAKE once more", eaten, 12, 0, 11, 12, 4, 0);
    }

    private static void countRefuses() {
        for (int wrong : new int[] {-1, 6, 7, LEAST, MOST}) {
            twins.unchanged("9: BAD count(" + wrong + ")", SOME, BAD, x -> x.count(wrong));
        }
    }
}
