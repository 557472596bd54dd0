/**
 * The bounds that the document names for promises 10 to 14 and for what is FELT and EATEN, sentence by sentence.
 */
final class EdgeActsTest {
    private static final int LEAST = Integer.MIN_VALUE, MOST = Integer.MAX_VALUE;
    private static final int BAD = WormHeap.BAD, NOT = WormHeap.NOT, FULL = WormHeap.FULL;
    private static final int[] NO_PLACES = {-1, 6, 7, 10, 42949673, LEAST, LEAST + 5, MOST};
    private static final int[] SENSES = {0, 1, 2, 3, 4, 50, 98, 99};
    private static final Check check = new Check("EdgeActsTest");
    private static final Twins twins = new Twins(check);

    /** Gold in all places but 2 and 4, in the bag 6 (lead), 7 (ruby), 8 (cup); 9 was eaten; image, sheets, tape. */
    private static void some(WormHeap x) {
        Check.heap(x, "c3@0,k1@0,c2t1@1,r3t2@3,c9t3@5,c8@5,l7,r1,k20t1,c1");
        x.lift(5);
        x.image();
        x.sense(1, 1);
        Check.fill(x, 0, 1, 4, 5);
        Check.write(x, "c7@3");
    }

    public static void main(String[] args) {
        feltAboveTheSense();
        feltBySwapsDifference();
        feltByEitherPlaceOfAPush();
        otherPlacesDoNotFeel();
        liftTakesTheTop();
        liftRefuses();
        layComesToTheTop();
        layRefuses();
        swapAtOnce();
        swapRefuses();
        pushToAnother();
        pushOfTwelve();
        pushRefuses();
        feltIsNotDone();
        eatsTheLeast();
        eatsTheFirstOfLikeOnes();
        eatsNoRuby();
        eatsNothing();
        eatsTwelve();
        eatsWhatWasToBeLaid();
        awakeIsCounted();
        awakeIsCountedFarOn();
        turnOfNoneAndTwelve();
        turnOfEachPlace();
        turnIsNoAct();
        check.done();
    }

    /** A piece that weighs so much, up to 101, into a place or the bag. */
    private static int weighing(WormHeap x, int weighs, int place) {
        return weighs > 99 ? x.piece(1, weighs - 2, 0, place) : x.piece(0, weighs, 0, place);
    }

    /** "an act is FELT, if the LOAD of any PLACE becomes by more than its SENSE another one by it". */
    private static void feltAboveTheSense() {
        for (int place = 0; place < 6; place++) {
            for (int sense : SENSES) {
                for (int weighs : new int[] {sense, sense + 1, sense + 2}) {
                    if (weighs > 0) {
                        feltAt(place, sense, weighs);
                    }
                }
            }
        }
    }

    private static void feltAt(int place, int sense, int weighs) {
        boolean felt = weighs > sense;
        String at = " of " + weighs + " in " + place + " by " + sense;
        WormHeap x = new WormHeap();
        weighing(x, weighs, place);
        x.sense(place, sense);
        check.due("10: lift" + at, felt ? FULL : 0, x.lift(place));
        check.due("10: AWAKE" + at, felt ? 1 : 0, x.count(3));
        check.due("10: LOAD" + at, felt ? weighs : 0, x.of(place, 0));
        WormHeap y = new WormHeap();
        weighing(y, weighs, 6);
        y.sense(place, sense);
        check.due("11: lay" + at, felt ? FULL : weighs, y.lay(0, place));
        check.due("11: AWAKE" + at, felt ? 1 : 0, y.count(3));
        check.due("11: LOAD" + at, felt ? 0 : weighs, y.of(place, 0));
        WormHeap z = new WormHeap();
        weighing(z, 50, place);
        weighing(z, weighs, place);
        z.sense(place, sense);
        int to = (place + 1) % 6;
        z.sense(to, 99);
        boolean pushFelt = felt || weighs > 99;
        check.due("13: push" + at, pushFelt ? FULL : 1, z.push(place, to));
        check.due("13: LOAD" + at, pushFelt ? 50 + weighs : 50, z.of(place, 0));
        WormHeap w = new WormHeap();
        weighing(w, weighs, to);
        w.sense(place, sense);
        w.sense(to, 99);
        check.due("13: push to it" + at, pushFelt ? FULL : 0, w.push(to, place));
        check.due("13: LOAD there" + at, pushFelt ? 0 : weighs, w.of(place, 0));
    }

    /** Of a SWAP only the difference counts, whichever is the heavier one. */
    private static void feltBySwapsDifference() {
        for (int sense : SENSES) {
            for (int more : new int[] {sense, sense + 1}) {
                for (int light : new int[] {1, 101 - more}) {
                    swapAt(sense, light, light + more);
                    swapAt(sense, light + more, light);
                }
            }
        }
    }

    private static void swapAt(int sense, int lies, int laid) {
        if (lies > 101 || laid > 101) {
            return;
        }
        boolean felt = Math.abs(laid - lies) > sense;
        WormHeap x = new WormHeap();
        weighing(x, lies, 5);
        weighing(x, laid, 6);
        x.sense(5, sense);
        String at = " of " + lies + " for " + laid + " by " + sense;
        check.due("12: swap" + at, felt ? FULL : 0, x.swap(5, 1));
        check.due("12: LOAD" + at, felt ? lies : laid, x.of(5, 0));
        check.due("12: AWAKE" + at, felt ? 1 : 0, x.count(3));
        check.due("12: it comes out" + at, felt ? 5 : 6, x.told(0, 3));
        check.due("12: it is laid" + at, felt ? 7 : 5, x.told(1, 3));
    }

    private static void feltByEitherPlaceOfAPush() {
        int[][] senses = {{5, 5, 0}, {4, 5, FULL}, {5, 4, FULL}, {4, 4, FULL}, {99, 4, FULL}, {4, 99, FULL}, {0, 99, FULL},
            {99, 0, FULL}, {99, 5, 0}, {5, 99, 0}};
        for (int[] s : senses) {
            WormHeap x = Check.made("c5@0,c9,c8");
            x.sense(0, s[0]);
            x.sense(5, s[1]);
            check.due("13: push by " + s[0] + " to " + s[1], s[2], x.push(0, 5));
            check.due("13: AWAKE once at most", s[2] == FULL ? 1 : 0, x.count(3));
            check.due("13: EATEN one at most", s[2] == FULL ? 7 : 6, x.told(2, 3));
            check.due("13: the heavier one is left", 6, x.told(1, 3));
            check.due("13: it lies", s[2] == FULL ? 0 : 5, x.told(0, 3));
        }
    }

    private static void otherPlacesDoNotFeel() {
        WormHeap x = Check.made("c5@2,c5@3");
        for (int place = 0; place < 6; place++) {
            x.sense(place, place == 2 || place == 3 ? 5 : 0);
        }
        check.due("10: only its own PLACE feels a lift", 0, x.lift(2));
        check.due("11: only its own PLACE feels a lay", 10, x.lay(0, 3));
        check.due("13: only its two PLACES feel a push", 0, x.push(3, 2));
        check.due("12: only its own PLACE feels a swap", NOT, x.swap(3, 0));
        check.due("10: never AWAKE", 0, x.count(3));
    }

    private static void liftTakesTheTop() {
        for (int place = 0; place < 6; place++) {
            WormHeap x = new WormHeap();
            for (int i = 0; i < 12; i++) {
                x.piece(i % 4, 1, 0, place);
            }
            for (int i = 11; i >= 0; i--) {
                check.due("10: the TOP of " + place, i, x.lift(place));
                check.due("10: it comes into THE BAG", 6, x.told(i, 3));
                check.due("10: so many lie there", i, x.of(place, 1));
                check.due("10: TOP then", i > 0 ? i - 1 : 12, x.of(place, 3));
            }
            check.due("10: none lies there", NOT, x.lift(place));
            check.due("10: all are in THE BAG", 12, x.count(1));
        }
    }

    private static void liftRefuses() {
        for (int place : NO_PLACES) {
            twins.unchanged("10: BAD lift(" + place + ")", EdgeActsTest::some, BAD, x -> x.lift(place));
            twins.unchanged("10: BAD ahead of NOT, lift(" + place + ")", x -> { }, BAD, x -> x.lift(place));
        }
        for (int place : new int[] {2, 4}) {
            twins.unchanged("10: NOT lift(" + place + ")", EdgeActsTest::some, NOT, x -> x.lift(place));
        }
        for (int place = 0; place < 6; place++) {
            int empty = place;
            twins.unchanged("10: NOT lift(" + place + "), none at all", x -> x.sense(empty, 0), NOT, x -> x.lift(empty));
        }
    }

    /** "LOAD of the PLACE" is that which it has then. */
    private static void layComesToTheTop() {
        for (int place = 0; place < 6; place++) {
            WormHeap x = new WormHeap();
            for (int i = 0; i < 12; i++) {
                x.piece(i % 4, 1, 0, 6);
            }
            int load = 0;
            for (int i = 11; i >= 0; i--) {
                load += i % 4 == 1 ? 3 : 1;
                check.due("11: LOAD of " + place, load, x.lay(i, place));
                check.due("11: TOP of " + place, i, x.of(place, 3));
                check.due("11: it lies there", place, x.told(i, 3));
                check.due("11: nothing lies on it", 0, x.told(i, 4));
            }
            check.due("11: eleven lie on the first", 11, x.told(11, 4));
            check.due("11: THE BAG is empty", 0, x.count(1));
            check.due("11: it is not in THE BAG", NOT, x.lay(0, place));
        }
    }

    private static void layRefuses() {
        for (int place : NO_PLACES) {
            twins.unchanged("11: BAD lay(6, " + place + ")", EdgeActsTest::some, BAD, x -> x.lay(6, place));
            twins.unchanged("11: BAD ahead of NOT, lay(0, " + place + ")", EdgeActsTest::some, BAD, x -> x.lay(0, place));
        }
        for (int piece : new int[] {-1, 10, 11, 12, 100, -100, LEAST, MOST}) {
            twins.unchanged("11: BAD lay(" + piece + ", 0)", EdgeActsTest::some, BAD, x -> x.lay(piece, 0));
        }
        check.due("11: BAD, no piece", BAD, new WormHeap().lay(0, 0));
        for (int piece : new int[] {0, 1, 4, 5}) {
            twins.unchanged("11: NOT, it lies, " + piece, EdgeActsTest::some, NOT, x -> x.lay(piece, 2));
            twins.unchanged("11: NOT, into its own PLACE, " + piece, EdgeActsTest::some, NOT,
                x -> x.lay(piece, piece < 2 ? 0 : 5));
        }
        twins.unchanged("11: NOT, it was EATEN", EdgeActsTest::some, NOT, x -> x.lay(9, 2));
        twins.unchanged("11: NOT ahead of FULL", x -> {
            Check.heap(x, "c99@0,c9");
            x.sense(1, 0);
        }, NOT, x -> x.lay(0, 1));
    }

    private static void swapAtOnce() {
        WormHeap x = Check.made("c50@3,k50@3,l52,c1");
        x.sense(3, 0);
        check.due("12: as heavy a thing", 1, x.swap(3, 2));
        check.due("12: LOAD stays", 102, x.of(3, 0));
        check.due("12: as many", 2, x.of(3, 1));
        check.due("12: the TOP", 2, x.of(3, 3));
        check.due("12: what lay under it", 1, x.told(0, 4));
        check.due("12: in THE BAG", 6, x.told(1, 3));
        check.due("12: as many in THE BAG", 2, x.count(1));
        check.due("12: and back", 2, x.swap(3, 1));
        check.due("12: unFELT", 0, x.count(3));
        WormHeap last = Check.made("c1@5,c1,c1,c1,c1,c1,c1,c1,c1,c1,c1,c1");
        check.due("12: for the last of twelve", 0, last.swap(5, 11));
        check.due("12: it lies there", 11, last.of(5, 3));
        check.due("12: alone", 1, last.of(5, 1));
    }

    private static void swapRefuses() {
        for (int place : NO_PLACES) {
            twins.unchanged("12: BAD swap(" + place + ", 6)", EdgeActsTest::some, BAD, x -> x.swap(place, 6));
            twins.unchanged("12: BAD ahead of NOT, swap(" + place + ", 0)", EdgeActsTest::some, BAD, x -> x.swap(place, 0));
        }
        for (int piece : new int[] {-1, 10, 11, 12, 100, -100, LEAST, MOST}) {
            twins.unchanged("12: BAD swap(0, " + piece + ")", EdgeActsTest::some, BAD, x -> x.swap(0, piece));
            twins.unchanged("12: BAD ahead of NOT, swap(2, " + piece + ")", EdgeActsTest::some, BAD, x -> x.swap(2, piece));
        }
        twins.unchanged("12: NOT, none lies there", EdgeActsTest::some, NOT, x -> x.swap(2, 7));
        twins.unchanged("12: NOT, neither", EdgeActsTest::some, NOT, x -> x.swap(2, 0));
        for (int piece : new int[] {0, 1, 2, 3, 4, 5}) {
            twins.unchanged("12: NOT, it lies, " + piece, EdgeActsTest::some, NOT, x -> x.swap(0, piece));
        }
        twins.unchanged("12: NOT, it was EATEN", EdgeActsTest::some, NOT, x -> x.swap(0, 9));
        twins.unchanged("12: NOT ahead of FULL", x -> {
            Check.heap(x, "c9@0,c99");
            x.sense(1, 0);
        }, NOT, x -> x.swap(1, 1));
    }

    private static void pushToAnother() {
        for (int from = 0; from < 6; from++) {
            for (int to = 0; to < 6; to++) {
                if (from != to) {
                    WormHeap x = Check.made("c1@" + from + ",c2@" + from + ",c3@" + to);
                    String at = " from " + from + " to " + to;
                    check.due("13: the PIECE" + at, 1, x.push(from, to));
                    check.due("13: TOP" + at, 1, x.of(to, 3));
                    check.due("13: LOAD" + at, 5, x.of(to, 0));
                    check.due("13: TOP left" + at, 0, x.of(from, 3));
                    check.due("13: LOAD left" + at, 1, x.of(from, 0));
                    check.due("13: the last one" + at, 0, x.push(from, to));
                    check.due("13: none lies there" + at, NOT, x.push(from, to));
                    check.due("13: two lie on the first" + at, 2, x.told(2, 4));
                    check.due("13: none in THE BAG" + at, 0, x.count(1));
                }
            }
        }
    }

    /** Twelve, one behind the other: they lie the other way about then. */
    private static void pushOfTwelve() {
        WormHeap x = Check.made("c3@1,c3@1,c3@1,c3@1,c3@1,c3@1,c3@1,c3@1,c3@1,c3@1,c3@1,c3@1");
        for (int i = 11; i >= 0; i--) {
            check.due("13: the TOP of " + (i + 1), i, x.push(1, 4));
            check.due("13: LOAD left", 3 * i, x.of(1, 0));
            check.due("13: LOAD there", 3 * (12 - i), x.of(4, 0));
            check.due("13: on the last", 11 - i, x.told(11, 4));
        }
        check.due("13: none lies there", NOT, x.push(1, 4));
        check.due("13: unFELT", 0, x.count(3));
    }

    /** "BAD: also one and the same". */
    private static void pushRefuses() {
        for (int place = 0; place < 6; place++) {
            int same = place;
            twins.unchanged("13: BAD, one and the same " + place, EdgeActsTest::some, BAD, x -> x.push(same, same));
            twins.unchanged("13: BAD ahead of NOT, the same " + place, x -> { }, BAD, x -> x.push(same, same));
        }
        for (int place : NO_PLACES) {
            twins.unchanged("13: BAD push(" + place + ", 0)", EdgeActsTest::some, BAD, x -> x.push(place, 0));
            twins.unchanged("13: BAD push(0, " + place + ")", EdgeActsTest::some, BAD, x -> x.push(0, place));
            twins.unchanged("13: BAD push(2, " + place + ")", EdgeActsTest::some, BAD, x -> x.push(2, place));
            twins.unchanged("13: BAD, neither " + place, EdgeActsTest::some, BAD, x -> x.push(place, place));
        }
        twins.unchanged("13: NOT, none lies there", EdgeActsTest::some, NOT, x -> x.push(2, 0));
        twins.unchanged("13: NOT, none lies in either", EdgeActsTest::some, NOT, x -> x.push(4, 2));
    }

    /** "What is FELT is not done": but for AWAKE and what is EATEN (6, the lead of 7) all is as it was. */
    private static void feltIsNotDone() {
        // Each of them has the lead EATEN: what is left is that which any felt lift leaves.
        Twins.Calls felt = x -> x.lift(5);
        twins.changed("10: FULL lift(5)", EdgeActsTest::some, FULL, x -> x.lift(5), felt);
        twins.changed("11: FULL lay(8, 2)", EdgeActsTest::some, FULL, x -> x.lay(8, 2), felt);
        twins.changed("11: FULL lay(6, 2)", EdgeActsTest::some, FULL, x -> x.lay(6, 2), felt);
        twins.changed("12: FULL swap(0, 8)", EdgeActsTest::some, FULL, x -> x.swap(0, 8), felt);
        twins.changed("12: FULL swap(0, 6)", EdgeActsTest::some, FULL, x -> x.swap(0, 6), felt);
        twins.changed("13: FULL push(5, 2)", EdgeActsTest::some, FULL, x -> x.push(5, 2), felt);
        twins.changed("13: FULL push(0, 1)", EdgeActsTest::some, FULL, x -> x.push(0, 1), felt);
        twins.changed("13: FULL push(1, 0)", EdgeActsTest::some, FULL, x -> x.push(1, 0), felt);
        WormHeap x = new WormHeap();
        some(x);
        int[] places = {0, 0, 1, 3, 5, 5, 7, 6, 6, 7};
        check.due("10: FULL", FULL, x.lift(5));
        for (int piece = 0; piece < 10; piece++) {
            check.due("10: PLACE of " + piece + " behind it", places[piece], x.told(piece, 3));
        }
        int[] loads = {6, 2, 0, 3, 0, 17};
        for (int place = 0; place < 6; place++) {
            check.due("10: LOAD of " + place + " behind it", loads[place], x.of(place, 0));
        }
        check.due("10: AWAKE", 2, x.count(3));
        check.due("10: EATEN", 2, x.count(2));
    }

    private static void dueEaten(String heap, int... order) {
        WormHeap x = Check.made(heap);
        for (int i = 0; i < order.length; i++) {
            check.due("10: FELT over " + heap, FULL, x.lift(0));
            check.due("10: EATEN of " + heap + ", " + i, 7, x.told(order[i], 3));
            check.due("10: one more of " + heap, i + 1, x.count(2));
        }
        check.due("10: FELT once more over " + heap, FULL, x.lift(0));
        check.due("10: no more of " + heap, order.length, x.count(2));
        check.due("10: AWAKE over " + heap, order.length + 1, x.count(3));
    }

    /** "EATS of PIECES in THE BAG that are no RUBIES that which weighs least". */
    private static void eatsTheLeast() {
        dueEaten("c99@0,c3,c2,c1", 3, 2, 1);
        dueEaten("c99@0,c1,c2,c3", 1, 2, 3);
        dueEaten("c99@0,k1,c2,l4", 2, 1, 3);
        dueEaten("c99@0,k97,c98,k99,l99,c97", 5, 2, 1, 4, 3);
        dueEaten("c99@0,c1@1,c9", 2);
        dueEaten("c99@0,l1t3,c2t0,k3t1", 1, 2, 3);
    }

    /** "(of like ones the first)". */
    private static void eatsTheFirstOfLikeOnes() {
        dueEaten("c99@0,c5,c5,c5", 1, 2, 3);
        dueEaten("c99@0,c5,k3,l5", 1, 2, 3);
        dueEaten("c99@0,l5,k3,c5", 1, 2, 3);
        dueEaten("c99@0,k3,c4,k2,l5", 2, 3, 1, 4);
        WormHeap late = Check.made("c99@0,c3@1,c3");
        late.lift(1);
        check.due("10: FELT", FULL, late.lift(0));
        check.due("10: the first by its number, not by when it came", 7, late.told(1, 3));
    }

    /** RUBY "is never EATEN". */
    private static void eatsNoRuby() {
        dueEaten("c99@0,r1");
        dueEaten("c99@0,r1,r2,r3,r99");
        dueEaten("c99@0,r1,c99,r2", 2);
        dueEaten("c99@0,r5,l5,k3,r4", 2, 3);
    }

    /** "if there is one": the bag may be empty. */
    private static void eatsNothing() {
        dueEaten("c99@0");
        dueEaten("c99@0,c1@1,c1@2");
        dueEaten("r99@0");
    }

    /** Twelve in THE BAG are EATEN by twelve acts that are FELT, the least first; then there is none to lay. */
    private static void eatsTwelve() {
        WormHeap x = Check.made("c99,k50,l40,c70,c60,l51,k30,c20,c20,k18,l4,c5");
        int[] order = {10, 11, 7, 8, 9, 6, 2, 5, 1, 4, 3, 0};
        for (int i = 0; i < 12; i++) {
            check.due("11: FELT", FULL, x.lay(0, 2));
            check.due("11: EATEN as " + i, 7, x.told(order[i], 3));
            check.due("11: so many are EATEN", i + 1, x.count(2));
            check.due("11: so many are left", 11 - i, x.count(1));
        }
        check.due("11: it is EATEN itself", NOT, x.lay(0, 2));
        check.due("11: AWAKE twelve times", 12, x.count(3));
        check.due("11: nothing weighs", 0, x.count(4) + x.count(5));
    }

    /** It is AWAKE as often as a run can have it. */
    private static void awakeIsCountedFarOn() {
        WormHeap x = Check.made("c9@0,r9");
        for (int i = 0; i < 500; i++) {
            x.lift(0);
        }
        check.due("10: AWAKE 500 times", 500, x.count(3));
        check.due("10: it lies there still", 0, x.of(0, 3));
    }

    private static void eatsWhatWasToBeLaid() {
        WormHeap x = Check.made("c20@0,c9,c8");
        check.due("11: FELT", FULL, x.lay(2, 1));
        check.due("11: it is EATEN itself", 7, x.told(2, 3));
        check.due("12: FELT", FULL, x.swap(0, 1));
        check.due("12: it is EATEN itself", 7, x.told(1, 3));
        check.due("11: it can't be laid then", NOT, x.lay(1, 0));
        check.due("12: nor swapped for", NOT, x.swap(0, 2));
        WormHeap ruby = Check.made("c20@0,r9,c8");
        check.due("11: FELT, a RUBY", FULL, ruby.lay(1, 1));
        check.due("11: another one is EATEN", 7, ruby.told(2, 3));
        check.due("11: the RUBY is in THE BAG", 6, ruby.told(1, 3));
    }

    /** "THE WORM is AWAKE then (how often it was is counted)": by what is FELT alone. */
    private static void awakeIsCounted() {
        WormHeap x = Check.made("c9@0,c3@1,c9,c3");
        int[] answers = {x.lift(9), x.lift(5), x.lay(9, 0), x.lay(0, 0), x.swap(5, 2), x.swap(0, 0), x.push(5, 0), x.push(0, 0),
            x.lift(1), x.lay(1, 1), x.turn(), x.turn(), x.sense(0, 4), x.piece(0, 99, 0, 2), x.image(), x.restore(),
            x.had(0, -1), x.odds(0, 99, 1, 8, 0)};
        check.due("10: so many calls", 18, answers.length);
        check.due("10: none of them was FELT", 0, x.count(3));
        int awake = 0;
        for (int i = 0; i < 20; i++) {
            check.due("10: FELT", FULL, i % 2 == 0 ? x.lift(0) : x.push(0, 1));
            check.due("10: AWAKE", ++awake, x.count(3));
        }
        check.due("11: FELT once more, but it is EATEN", NOT, x.lay(2, 1));
        check.due("10: AWAKE as often", awake, x.count(3));
    }

    /** "PLACE p has the PIECES that PLACE 5 less p had, the TOP lowest (SENSES stay ..)". */
    private static void turnOfNoneAndTwelve() {
        check.due("14: none", 0, new WormHeap().turn());
        check.due("14: none, one in THE BAG", 0, Check.made("c1").turn());
        for (int place = 0; place < 6; place++) {
            WormHeap x = new WormHeap();
            for (int i = 0; i < 12; i++) {
                check.due("14: ahead of number " + i, i, x.turn());
                x.turn();
                x.piece(0, i + 1, 0, place);
            }
            check.due("14: twelve in " + place, 12, x.turn());
            for (int i = 0; i < 12; i++) {
                check.due("14: PLACE of " + i, 5 - place, x.told(i, 3));
                check.due("14: OFF of " + i, i, x.told(i, 4));
            }
            check.due("14: the TOP was lowest", 0, x.of(5 - place, 3));
            check.due("14: LOAD", 78, x.of(5 - place, 0));
            check.due("14: none there", 12, x.of(place, 3));
            check.due("14: back", 12, x.turn());
            check.due("14: the TOP as before", 11, x.of(place, 3));
            check.due("14: the lowest as before", 11, x.told(0, 4));
        }
    }

    private static void turnOfEachPlace() {
        WormHeap x = Check.made("c1@0,c2@1,c3@2,c4@3,c5@4,c6@5,c7@0,c8@2,c9@5,c10@5,c11,c1");
        x.sense(4, 5);
        check.due("14: in THE BAG", 4, x.lift(4));
        check.due("14: FELT, the coin of 1 is EATEN", FULL, x.lift(0));
        check.due("14: how many lie", 9, x.turn());
        check.due("14: THE BAG stays", 2, x.count(1));
        check.due("14: the EATEN stay", 1, x.count(2));
        int[][] rows = {{9, 8, 5}, {}, {3}, {7, 2}, {1}, {6, 0}};
        WormHeap y = Check.made("c1@0,c2@1,c3@2,c4@3,c5,c6@5,c7@0,c8@2,c9@5,c10@5,c11,c1");
        y.sense(1, 11);
        y.turn();
        for (int place = 0; place < 6; place++) {
            check.due("14: how many in " + place, rows[place].length, y.of(place, 1));
            check.due("14: SENSE of " + place, place == 1 ? 11 : 3, y.of(place, 2));
            for (int i = 0; i < rows[place].length; i++) {
                check.due("14: OFF", rows[place].length - 1 - i, y.told(rows[place][i], 4));
                check.due("14: PLACE", place, y.told(rows[place][i], 3));
            }
        }
        check.due("14: in THE BAG still", 6, y.told(10, 3));
    }

    private static void turnIsNoAct() {
        WormHeap x = Check.made("k99@0,c1");
        x.sense(0, 0);
        x.sense(5, 0);
        check.due("14: one", 1, x.turn());
        check.due("14: it is not FELT", 0, x.count(3));
        check.due("14: nothing is EATEN", 0, x.count(2));
        check.due("14: it lies there", 101, x.of(5, 0));
        check.due("14: and can be FELT there", FULL, x.lift(5));
        check.due("14: nothing turns what was EATEN", 1, x.turn());
        check.due("14: EATEN still", 7, x.told(1, 3));
    }
}
