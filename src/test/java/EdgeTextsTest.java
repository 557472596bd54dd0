/**
 * The bounds that the document names for promises 6 to 8: THE TAPE, HEAPS, NIGHTS, their FAULTS, sentence by sentence.
 */
final class EdgeTextsTest {
    private static final int LEAST = Integer.MIN_VALUE, MOST = Integer.MAX_VALUE;
    private static final int BAD = WormHeap.BAD, FULL = WormHeap.FULL;
    private static final String TWELVE = "c1,c1,c1,c1,c1,c1,c1,c1,c1,c1,c1,c1";
    private static final Check check = new Check("EdgeTextsTest");
    private static final Twins twins = new Twins(check);

    /** Pieces, an image, sheets; an empty tape. */
    private static void some(WormHeap x) {
        EdgePiecesTest.some(x);
        x.night();
    }

    public static void main(String[] args) {
        typeTakesOneToEight();
        typeRefusesNumbers();
        typeTakesBytesFrom32To126();
        typeRefusesBytes();
        typeIsFullAt120();
        typeLooksAtTheLowestBytesOnly();
        tapeForgetsWhatWasRead();
        heapEmptiesTheTape();
        heapOfOneToTwelve();
        heapNumbers();
        heapTowns();
        heapPlaces();
        heapKinds();
        heapIsInPlaceOfAll();
        heapLeavesTheOthers();
        heapBlanks();
        heapFaultsByTheByte();
        heapFaultsLeaveAll();
        nightEmptiesTheTape();
        nightOfOneToForty();
        nightLetters();
        nightDigits();
        nightPushToTheSame();
        nightTillOneIsFelt();
        nightTillOneCannotBe();
        nightFaultsByTheByte();
        nightFaultsLeaveAll();
        check.done();
    }

    /** "The n lowest bytes (1 .. 8) of w, of these the highest first". */
    private static void typeTakesOneToEight() {
        Object[][] texts = {{"c", -21}, {"k7", 1}, {"c 0", -22}, {"c0,l", -21}, {"c9,k ", -25}, {"c1t2@ ", -26},
            {"c1,k2,c", -27}, {"c1t2@3,c", -28}};
        for (Object[] row : texts) {
            String text = (String) row[0];
            WormHeap x = new WormHeap();
            check.due("6: n of " + text, text.length(), x.type(Check.word(text), text.length()));
            check.due("6: in this order " + text, (Integer) row[1], x.heap());
        }
        WormHeap z = new WormHeap();
        check.due("6: eight", 8, z.type(Check.word("c12t3@4,"), 8));
        check.due("6: two behind them", 10, z.type(Check.word("k9"), 2));
        check.due("6: as told", 2, z.heap());
        check.due("6: the highest first", 12, z.told(0, 1));
        check.due("6: TOWN", 3, z.told(0, 2));
        check.due("6: PLACE", 4, z.told(0, 3));
        check.due("6: those behind", 11, z.told(1, 1));
    }

    private static void typeRefusesNumbers() {
        for (int n : new int[] {0, 9, -1, 16, 64, 256, LEAST, LEAST + 1, MOST}) {
            twins.unchanged("6: BAD, n " + n, EdgePiecesTest::some, BAD, x -> x.type(Check.word("cccccccc"), n));
            twins.unchanged("6: BAD, n " + n + " of an empty tape", x -> { }, BAD, x -> x.type(Check.word("cccccccc"), n));
        }
    }

    private static void typeTakesBytesFrom32To126() {
        for (int b = 32; b <= 126; b++) {
            WormHeap x = new WormHeap();
            check.due("6: a byte " + b, 1, x.type(b, 1));
            check.due("6: eight bytes " + b, 9, x.type(0x0101010101010101L * b, 8));
        }
    }

    /** "BAD: .. a byte not 32 .. 126": wherever it stands among the n. */
    private static void typeRefusesBytes() {
        int[] wrong = {31, 127, 0, 1, 10, 128, 160, 254, 255};
        for (int n = 1; n <= 8; n++) {
            for (int i = 0; i < n; i++) {
                for (int b : wrong) {
                    long w = Check.word("cccccccc") & ~(255L << 8 * i) | (long) b << 8 * i;
                    WormHeap x = new WormHeap();
                    String at = "a byte " + b + " at " + i + " of " + n;
                    check.due("6: BAD, " + at, BAD, x.type(w, n));
                    check.due("6: no byte has come by " + at, 1, x.type('c', 1));
                }
            }
        }
        for (int b : wrong) {
            long w = Check.word("c7,c7@0") << 8 | b;
            twins.unchanged("6: BAD, the last byte " + b, EdgePiecesTest::some, BAD, x -> x.type(w, 8));
        }
        twins.unchanged("6: BAD, all ones", EdgePiecesTest::some, BAD, x -> x.type(-1L, 8));
        twins.unchanged("6: BAD, none", EdgePiecesTest::some, BAD, x -> x.type(0L, 8));
        twins.unchanged("6: BAD, the least", EdgePiecesTest::some, BAD, x -> x.type(Long.MIN_VALUE, 8));
    }

    /** A tape of so many bytes. */
    private static WormHeap typed(int bytes) {
        WormHeap x = new WormHeap();
        Check.write(x, "~".repeat(bytes));
        return x;
    }

    private static void typeIsFullAt120() {
        for (int n = 1; n <= 8; n++) {
            long w = Check.word("~~~~~~~~");
            check.due("6: 120 by " + n, 120, typed(120 - n).type(w, n));
            check.due("6: FULL, 121 by " + n, FULL, typed(121 - n).type(w, n));
            check.due("6: FULL, " + n + " on a full one", FULL, typed(120).type(w, n));
            int more = n;
            twins.unchanged("6: FULL by " + n, x -> Check.write(x, "c7@0 " + " ".repeat(116 - more)), FULL,
                x -> x.type(Check.word("k9      "), more));
        }
        WormHeap x = typed(119);
        check.due("6: FULL, two at 119", FULL, x.type(Check.word("~~"), 2));
        check.due("6: none of them has come", 120, x.type('~', 1));
        check.due("6: then FULL", FULL, x.type('~', 1));
        check.due("6: BAD ahead of FULL, n", BAD, x.type('~', 0));
        check.due("6: BAD ahead of FULL, n", BAD, x.type('~', 9));
        check.due("6: BAD ahead of FULL, a byte", BAD, x.type(31, 1));
        check.due("6: BAD ahead of FULL, a byte", BAD, x.type(127, 1));
        twins.unchanged("6: FULL", z -> Check.write(z, "c7@0," + "r9t1@1,".repeat(10) + "k3" + " ".repeat(43)), FULL,
            z -> z.type(' ', 1));
    }

    private static void typeLooksAtTheLowestBytesOnly() {
        for (int n = 1; n <= 7; n++) {
            long above = -1L << 8 * n;
            WormHeap x = new WormHeap();
            check.due("6: above the lowest " + n + " all ones", n, x.type(above | Check.word("ccccccc") & ~above, n));
            check.due("6: above the lowest " + n + " none", 2 * n, x.type(Check.word("ccccccc") & ~above, n));
        }
    }

    /** "THE TAPE, which is empty then": what stood there once is no part of a shorter text. */
    private static void tapeForgetsWhatWasRead() {
        String[] once = {"c15@0,k9t3", "c1 5", "      ", "~~~~~~~~", "9999999999", "t1@2,c1", ",,,,,,,,", "l0;l0;l0", "da>0;l0"};
        Object[][] then = {{"", -20}, {" ", -21}, {"c", -21}, {"c ", -22}, {"c1", 1}, {"c1t", -23}, {"c1t2", 1}, {"c1t2@", -25},
            {"c1,", -23}, {"c1 ", 1}, {"c1,k", -24}};
        for (String text : once) {
            for (Object[] row : then) {
                WormHeap x = new WormHeap();
                Check.heap(x, text);
                check.due("7: " + row[0] + " behind " + text, (Integer) row[1], Check.heap(x, (String) row[0]));
                if ((Integer) row[1] > 0) {
                    check.due("7: weighs behind " + text, 1, x.told(0, 1));
                }
                Check.night(x, text);
                check.due("7: " + row[0] + " behind a NIGHT " + text, (Integer) row[1], Check.heap(x, (String) row[0]));
            }
        }
        Object[][] nights = {{"", -20}, {" ", -21}, {"l", -21}, {"l0", 1}, {"l0;", -23}, {"l0 ", 1}, {"d", -21}, {"da", -22},
            {"db>", -23}, {"db>1", 1}, {"p0>", -23}, {"p0>1;", -25}};
        for (String text : once) {
            for (Object[] row : nights) {
                WormHeap x = Check.made("c1@0,c1");
                Check.night(x, text.replace('l', 'x').replace('d', 'x'));
                check.due("8: " + row[0] + " behind " + text, (Integer) row[1], Check.night(x, (String) row[0]));
            }
        }
    }

    private static void heapEmptiesTheTape() {
        for (String text : new String[] {"c1", "c100", "x", "c1,", TWELVE + ",c1", "", " ", "l0"}) {
            WormHeap x = new WormHeap();
            Check.heap(x, text);
            check.due("7: THE TAPE is empty behind " + text, 1, x.type('k', 1));
            check.due("7: and goes on as a new one", 2, x.type('2', 1));
            check.due("7: as told", 1, x.heap());
        }
        WormHeap full = new WormHeap();
        check.due("7: of a full tape", 1, Check.heap(full, "c1@0" + " ".repeat(116)));
        check.due("7: it is empty then", 8, full.type(Check.word("cccccccc"), 8));
    }

    /** "1 to 12 PIECES with , between". */
    private static void heapOfOneToTwelve() {
        check.due("7: none", -20, Check.heap(new WormHeap(), ""));
        check.due("7: blanks only", -23, Check.heap(new WormHeap(), "   "));
        check.due("7: a full tape of blanks", -140, Check.heap(new WormHeap(), " ".repeat(120)));
        for (int n = 1; n <= 12; n++) {
            WormHeap x = new WormHeap();
            String text = TWELVE.substring(0, 3 * n - 1);
            check.due("7: of " + n, n, Check.heap(x, text));
            check.due("7: there are " + n, n, x.count(0));
            check.due("7: the last of " + n, 1, x.told(n - 1, 1));
            check.due("7: none behind " + n, BAD, x.told(n, 1));
            check.due("7: no , at the end of " + n, n < 12 ? -20 - 3 * n : -55, Check.heap(x, text + ","));
            check.due("7: those told stay", n, x.count(0));
        }
        WormHeap x = new WormHeap();
        check.due("7: a thirteenth", -55, Check.heap(x, TWELVE + ",c1"));
        check.due("7: a thirteenth that is none", -55, Check.heap(x, TWELVE + ",x"));
        check.due("7: a , behind twelve and a blank", -56, Check.heap(x, TWELVE + " ,"));
        check.due("7: none told", 0, x.count(0));
        check.due("7: the longest words", 12, Check.heap(x, "k099t3@5,".repeat(11) + "k099t3@5"));
        check.due("7: all lie there", 1212, x.of(5, 0));
    }

    private static void dueWeight(String number, int due) {
        for (String tail : new String[] {"", " ", "t0", "@0", ",c1", " t0", " ,c1"}) {
            WormHeap x = new WormHeap();
            int answer = Check.heap(x, "c" + number + tail);
            if (due > 0) {
                check.due("7: c" + number + tail, tail.endsWith("c1") ? 2 : 1, answer);
                check.due("7: weighs c" + number + tail, due, x.told(0, 1));
            } else {
                check.due("7: c" + number + tail, -21, answer);
                check.due("7: none by c" + number + tail, 0, x.count(0));
            }
        }
        check.due("7: FAULT ahead of a later one, " + number, due > 0 ? -21 - number.length() : -21,
            Check.heap(new WormHeap(), "c" + number + "x"));
    }

    /** "a number 1 .. 99 (WEIGHT; zeros ahead, too)"; FAULT "of a number that may not be its first byte". */
    private static void heapNumbers() {
        dueWeight("1", 1);
        dueWeight("9", 9);
        dueWeight("10", 10);
        dueWeight("99", 99);
        dueWeight("01", 1);
        dueWeight("099", 99);
        dueWeight("000000000000000000000000000000000001", 1);
        dueWeight("0".repeat(100) + "99", 99);
        int no = -1;
        String[] wrong = {"0", "00", "000", "100", "0100", "101", "110", "199", "256", "257", "355", "999", "1000", "65537",
            "4294967295", "4294967296", "4294967297", "4294967395", "2147483647", "2147483648", "2147483649",
            "18446744073709551616", "18446744073709551617", "18446744073709551715", "9223372036854775807",
            "0".repeat(101), "9".repeat(110), "1" + "0".repeat(100), "1" + "0".repeat(64) + "1"};
        for (String number : wrong) {
            dueWeight(number, no);
        }
        WormHeap x = new WormHeap();
        check.due("7: the number of the second", -24, Check.heap(x, "c1,k0"));
        check.due("7: the number of the second", -25, Check.heap(x, "c1, k100"));
        check.due("7: a blank ahead of it", -23, Check.heap(x, "c  0"));
        check.due("7: the first byte, not that which is too much", -23, Check.heap(x, "c  999"));
        check.due("7: a blank ends it", -23, Check.heap(x, "c1 0"));
        check.due("7: a blank ends it", -24, Check.heap(x, "c01 1"));
        check.due("7: no sign", -21, Check.heap(x, "c-1"));
        check.due("7: no sign", -21, Check.heap(x, "c+1"));
        check.due("7: no number", -21, Check.heap(x, "c@0"));
        check.due("7: no number", -21, Check.heap(x, "ct0"));
        check.due("7: no number", -21, Check.heap(x, "c,c1"));
        check.due("7: no number, the end", -21, Check.heap(x, "c"));
        check.due("7: no number, the end behind a blank", -22, Check.heap(x, "c "));
    }

    /** "perhaps t and a digit 0 .. 3 (TOWN; 0)". */
    private static void heapTowns() {
        WormHeap x = Check.made("c1,c1t0,c1t1,c1t2,c1t3");
        int[] due = {0, 0, 1, 2, 3};
        for (int piece = 0; piece < due.length; piece++) {
            check.due("7: TOWN of " + piece, due[piece], x.told(piece, 2));
        }
        for (String digit : new String[] {"4", "9", "/", ":", "a", "t", "@0", ",c1", "-", ""}) {
            check.due("7: t" + digit, -23, Check.heap(x, "c1t" + digit));
            check.due("7: @ ahead of t" + digit, -24, Check.heap(x, "c1@0t" + digit));
        }
        check.due("7: one digit", -24, Check.heap(x, "c1t00"));
        check.due("7: one digit", -24, Check.heap(x, "c1t12"));
        check.due("7: one t", -24, Check.heap(x, "c1t1t1"));
        check.due("7: no T", -22, Check.heap(x, "c1T1"));
        check.due("7: those told stay", 5, x.count(0));
    }

    /** "@ and a digit 0 .. 5 (PLACE, on what lies there), or nothing (in THE BAG)". */
    private static void heapPlaces() {
        WormHeap x = Check.made("c1@0,c2@1,c3@2,c4@3,c5@4,c6@5,c7,c8@0,c9t1,c1t1@5");
        int[] due = {0, 1, 2, 3, 4, 5, 6, 0, 6, 5};
        for (int piece = 0; piece < due.length; piece++) {
            check.due("7: PLACE of " + piece, due[piece], x.told(piece, 3));
        }
        check.due("7: on what lies there", 7, x.of(0, 3));
        check.due("7: under it", 1, x.told(0, 4));
        check.due("7: on what lies there", 9, x.of(5, 3));
        for (String digit : new String[] {"6", "7", "9", "/", ":", "a", "@", ",c1", "-", ""}) {
            check.due("7: @" + digit, -23, Check.heap(x, "c1@" + digit));
            check.due("7: t@" + digit, -25, Check.heap(x, "c1t0@" + digit));
        }
        check.due("7: one digit", -24, Check.heap(x, "c1@00"));
        check.due("7: one digit", -24, Check.heap(x, "c1@55"));
        check.due("7: one @", -24, Check.heap(x, "c1@5@5"));
        check.due("7: those told stay", 10, x.count(0));
    }

    /** "c k l r (KINDS in this order)". */
    private static void heapKinds() {
        WormHeap x = Check.made("c5,k5,l5,r5");
        for (int kind = 0; kind < 4; kind++) {
            check.due("7: KIND " + kind, kind, x.told(kind, 0));
        }
        check.due("7: a CUP weighs 2 more", 7, x.told(1, 1));
        for (char sign : "abdjmqszCKLR015,;@t>=~!".toCharArray()) {
            check.due("7: no KIND " + sign, -20, Check.heap(x, sign + "5"));
            check.due("7: no KIND, the second " + sign, -23, Check.heap(x, "c5," + sign + "5"));
        }
        check.due("7: those told stay", 4, x.count(0));
    }

    /** "in place of all PIECES": those in places, in the bag and the eaten. */
    private static void heapIsInPlaceOfAll() {
        WormHeap x = Check.made("c1@0,c2@1,c3@2,c9@3,c5@4,c6@5,c7,c8@0,c9,c9@0,c9@1,c9@2");
        x.lift(3);
        check.due("7: one is EATEN", 1, x.count(2));
        check.due("7: one", 1, Check.heap(x, "r4t2@3"));
        check.due("7: PIECES", 1, x.count(0));
        check.due("7: none in THE BAG", 0, x.count(1));
        check.due("7: none EATEN", 0, x.count(2));
        check.due("7: all weigh", 4, x.count(4));
        check.due("7: THE BAG weighs", 0, x.count(5));
        for (int place = 0; place < 6; place++) {
            check.due("7: how many in " + place, place == 3 ? 1 : 0, x.of(place, 1));
            check.due("7: LOAD of " + place, place == 3 ? 4 : 0, x.of(place, 0));
            check.due("7: TOP of " + place, place == 3 ? 0 : 12, x.of(place, 3));
        }
        check.due("7: it lies lowest", 0, x.told(0, 4));
        check.due("7: none of the others", BAD, x.told(1, 0));
        check.due("7: the next one", 1, x.piece(0, 1, 0, 3));
        check.due("7: under it", 1, x.told(0, 4));
        check.due("7: twelve again", 12, Check.heap(x, TWELVE));
        check.due("7: FULL", FULL, x.piece(0, 1, 0, 0));
    }

    /** "(SENSES, how often it was AWAKE, the IMAGE, SHEETS stay)". */
    private static void heapLeavesTheOthers() {
        WormHeap x = new WormHeap();
        some(x);
        check.due("7: read", 1, Check.heap(x, "c1@0"));
        int[] senses = {3, 0, 50, 3, 99, 3};
        for (int place = 0; place < 6; place++) {
            check.due("7: SENSE of " + place, senses[place], x.of(place, 2));
        }
        check.due("7: AWAKE", 1, x.count(3));
        check.due("7: a SHEET", 3, x.drop(0));
        check.due("7: a SHEET of none", 0, x.drop(1));
        check.due("7: its items", 8, x.tried(2, 2, 0, 3, 0));
        check.due("7: a SHEET", 7, x.drop(2));
        check.due("7: no SHEET", WormHeap.NULL, x.drop(3));
        check.due("7: the IMAGE", 1, x.restore());
        check.due("7: as it was", 7, x.count(0));
        check.due("7: the SENSE then", 3, x.of(2, 2));
        WormHeap none = Check.made("c1");
        check.due("7: no IMAGE by a HEAP", WormHeap.NONE, none.restore());
    }

    /** "blanks do not count, but end a number". */
    private static void heapBlanks() {
        String text = "c5t1@2,k06,l07@5";
        WormHeap due = Check.made(text);
        for (int i = 0; i <= text.length(); i++) {
            boolean inNumber = i > 0 && i < text.length() && "c5t1@2,k06,l07@5".substring(i - 1, i + 1).matches("0[67]");
            String spaced = text.substring(0, i) + "   " + text.substring(i);
            WormHeap x = new WormHeap();
            check.due("7: blanks at " + i, inNumber ? -20 - (i - 1) : 3, Check.heap(x, spaced));
            if (!inNumber) {
                for (int piece = 0; piece < 3; piece++) {
                    for (int what = 0; what < 5; what++) {
                        check.due("7: told by blanks at " + i, due.told(piece, what), x.told(piece, what));
                    }
                }
            }
        }
        check.due("7: blanks all over", 2, Check.heap(due, "  c  5  t  1  @  2  ,  k  6  t  0  @  0  "));
        check.due("7: blanks ahead of a FAULT count as bytes", -27, Check.heap(due, "  c  5 x"));
        check.due("7: blanks ahead of the end, too", -26, Check.heap(due, "c5,   "));
        check.due("7: a blank ends a number", -23, Check.heap(due, "c5 5"));
        check.due("7: ended, 0 may not be", -21, Check.heap(due, "c0 5"));
    }

    private static void heapFaultsByTheByte() {
        String text = "c12t3@4,k5";
        // Of the text up to each byte: which signs can stand there.
        String[] may = {"cklr", "0123456789", "0123456789t@,", "t@,", "0123", "@,", "012345", ",", "cklr", "0123456789"};
        for (int i = 0; i < text.length(); i++) {
            for (char sign = 33; sign < 127; sign++) {
                if (may[i].indexOf(sign) < 0 && !(i == 3 && sign >= '0' && sign <= '9')) {
                    String spoilt = text.substring(0, i) + sign + text.substring(i + 1);
                    check.due("7: a FAULT of " + spoilt, -20 - i, Check.heap(new WormHeap(), spoilt));
                    String cut = text.substring(0, i) + sign;
                    check.due("7: a FAULT of " + cut, -20 - i, Check.heap(new WormHeap(), cut));
                }
            }
        }
        check.due("7: a third digit", -21, Check.heap(new WormHeap(), "c123@4,k5"));
        int[] ends = {-20, -21, 1, 1, -24, 1, -26, 1, -28, -29, 2};
        for (int n = 0; n <= text.length(); n++) {
            check.due("7: the end behind " + n, ends[n], Check.heap(new WormHeap(), text.substring(0, n)));
        }
        check.due("7: the last byte of a full tape", -139, Check.heap(new WormHeap(), "c1" + " ".repeat(117) + "x"));
        check.due("7: the end of a full tape", -140, Check.heap(new WormHeap(), "c1" + " ".repeat(117) + ","));
        check.due("7: a full tape", 1, Check.heap(new WormHeap(), " ".repeat(116) + "c1@0"));
    }

    /** "A FAULT (those told stay)". */
    private static void heapFaultsLeaveAll() {
        Object[][] faults = {{"", 0}, {" ", 1}, {"x", 0}, {"c0", 1}, {"c100", 1}, {"c1,", 3}, {"c1t4", 3}, {"c1@6", 3},
            {"c1@0,c1@0,c1@0,c1@0,x", 20}, {TWELVE + ",c1", 35}, {"r9@0,c1 1", 8}};
        for (Object[] fault : faults) {
            String text = (String) fault[0];
            int due = -20 - (Integer) fault[1];
            twins.changed("7: a FAULT of " + text, EdgeTextsTest::some, due, x -> Check.heap(x, text), x -> { });
            twins.changed("7: a FAULT, first, of " + text, x -> { }, due, x -> Check.heap(x, text), x -> { });
        }
    }

    private static void nightEmptiesTheTape() {
        for (String text : new String[] {"l0", "l1", "l2", "x", "l0;", "da>0", "dz>0", "p0>0", "", " ", "c1"}) {
            WormHeap x = Check.made("c1@0,c9@1");
            Check.night(x, text);
            check.due("8: THE TAPE is empty behind " + text, 1, x.type('c', 1));
            check.due("8: and goes on as a new one", 2, x.type('2', 1));
            check.due("8: as told", 1, x.heap());
        }
    }

    /** "A NIGHT is a TEXT of acts, one at least, with ; between": forty come to a tape. */
    private static void nightOfOneToForty() {
        check.due("8: none", -20, Check.night(new WormHeap(), ""));
        check.due("8: blanks only", -22, Check.night(new WormHeap(), "  "));
        check.due("8: a full tape of blanks", -140, Check.night(new WormHeap(), " ".repeat(120)));
        for (int n = 1; n <= 24; n++) {
            WormHeap x = Check.made("c1@0");
            check.due("8: of " + n, n, Check.night(x, "p0>1;p1>0;".repeat(12).substring(0, 5 * n - 1)));
            check.due("8: done " + n, n % 2, x.told(0, 3));
            check.due("8: not awake", 0, x.count(3));
        }
        WormHeap full = Check.made(TWELVE.replace(",", "@0,") + "@0");
        check.due("8: forty, twelve can be", 12, Check.night(full, "l0;".repeat(39) + "l0"));
        check.due("8: a full tape that ends in ;", -140, Check.night(full, "l0;".repeat(40)));
        WormHeap turns = Check.made("c1@0,c1,l1");
        check.due("8: thirty", 30, Check.night(turns, "l0;da>0;l0;da>0;l0;da>0;".repeat(5).substring(0, 119)));
        check.due("8: nothing is done of a NIGHT that is none", -23, Check.night(turns, "l0;"));
        check.due("8: it lies there", 0, turns.of(0, 3));
        check.due("8: no ;", -22, Check.night(turns, "l0l0"));
        check.due("8: no ;", -22, Check.night(turns, "l0,l0"));
        check.due("8: two of them", -23, Check.night(turns, "l0;;l0"));
        check.due("8: one ahead", -20, Check.night(turns, ";l0"));
    }

    /** "letters a .. l are PIECES"; a FAULT "of a PIECE that there is not, too". */
    private static void nightLetters() {
        for (int n = 1; n <= 12; n++) {
            String heap = TWELVE.substring(0, 3 * n - 1);
            char last = (char) ('a' + n - 1);
            char next = (char) ('a' + n);
            check.due("8: a of " + n, 1, Check.night(Check.made(heap), "da>0"));
            WormHeap x = Check.made(heap);
            check.due("8: the last of " + n, 1, Check.night(x, "d" + last + ">5"));
            check.due("8: that one of " + n, n - 1, x.of(5, 3));
            check.due("8: swap for it, not in THE BAG, of " + n, 0, Check.night(x, "s5=" + last));
            check.due("8: the next of " + n, -21, Check.night(x, "d" + next + ">0"));
            check.due("8: the next of " + n, -23, Check.night(x, "s5=" + next));
            check.due("8: the next of " + n + " as the second", -26, Check.night(x, "l5;s5=" + next));
            check.due("8: nothing is done ahead of it", n - 1, x.of(5, 3));
        }
        for (char letter : "`{@A Lmz01>=".toCharArray()) {
            WormHeap x = Check.made(TWELVE + " ");
            int at = letter == ' ' ? 1 : 0;
            check.due("8: no PIECE " + letter, -21 - at, Check.night(x, "d" + letter + ">0"));
            check.due("8: no PIECE " + letter, letter == ' ' ? -24 : -23, Check.night(x, "s0=" + letter));
        }
        check.due("8: no PIECES at all", -21, Check.night(new WormHeap(), "da>0"));
        check.due("8: no PIECES at all", -23, Check.night(new WormHeap(), "s0=a"));
        check.due("8: no PIECES at all, but acts without", 0, Check.night(new WormHeap(), "l0;p0>1"));
        WormHeap eaten = Check.made("c9@0,c1");
        eaten.lift(0);
        check.due("8: an EATEN one is a PIECE still", 0, Check.night(eaten, "db>1"));
        check.due("8: and for swaps", 0, Check.night(eaten, "s0=b"));
        check.due("8: not awake by it", 1, eaten.count(3));
    }

    /** Digits are PLACES 0 .. 5. */
    private static void nightDigits() {
        for (int place = 0; place < 6; place++) {
            WormHeap x = Check.made("c1@" + place + ",c1");
            check.due("8: swap in " + place, 1, Check.night(x, "s" + place + "=b"));
            check.due("8: so it lies there", 1, x.of(place, 3));
            check.due("8: lift from " + place, 1, Check.night(x, "l" + place));
            check.due("8: lay into " + place, 1, Check.night(x, "da>" + place));
            check.due("8: so it lies there", 0, x.of(place, 3));
            for (int to = 0; to < 6; to++) {
                if (to != place) {
                    check.due("8: push " + place + to, 2, Check.night(x, "p" + place + ">" + to + ";p" + to + ">" + place));
                }
            }
            check.due("8: so it lies there", 0, x.of(place, 3));
        }
        for (char digit : "6789/:a-~".toCharArray()) {
            WormHeap x = Check.made("c1@0,c1");
            check.due("8: l" + digit, -21, Check.night(x, "l" + digit));
            check.due("8: db>" + digit, -23, Check.night(x, "db>" + digit));
            check.due("8: s" + digit, -21, Check.night(x, "s" + digit + "=b"));
            check.due("8: p" + digit, -21, Check.night(x, "p" + digit + ">0"));
            check.due("8: p0>" + digit, -23, Check.night(x, "p0>" + digit));
        }
    }

    /** "the same is a FAULT at the second digit". */
    private static void nightPushToTheSame() {
        for (int place = 0; place < 6; place++) {
            String text = "p" + place + ">" + place;
            WormHeap x = Check.made("c1@" + place);
            check.due("8: " + text, -23, Check.night(x, text));
            check.due("8: blanks ahead of it", -27, Check.night(x, "  p" + place + " > " + place));
            check.due("8: the FAULT of the second act", -26, Check.night(x, "l" + place + ";" + text));
            check.due("8: nothing is done", 0, x.of(place, 3));
        }
    }

    /** "They are done one behind the other till one is FELT". */
    private static void nightTillOneIsFelt() {
        Twins.Calls setup = x -> Check.heap(x, "c3@0,c4@0,c3@0,c3@1,r1,c9,k7");
        twins.changed("8: FELT as the first", setup, 0, x -> Check.night(x, "df>2;l0"), x -> x.lay(5, 2));
        twins.changed("8: FELT as the second", setup, 1, x -> Check.night(x, "l0;l0;l1"), x -> {
            x.lift(0);
            x.lift(0);
        });
        twins.changed("8: FELT as the last", setup, 2, x -> Check.night(x, "l0;l1;l0"), x -> {
            x.lift(0);
            x.lift(1);
            x.lift(0);
        });
        twins.changed("8: none is FELT", setup, 4, x -> Check.night(x, "p0>1;p1>2;s2=e;l1"), x -> {
            x.push(0, 1);
            x.push(1, 2);
            x.swap(2, 4);
            x.lift(1);
        });
        WormHeap x = new WormHeap();
        setup.on(x);
        check.due("8: FELT as the second", 1, Check.night(x, "l0;l0;l0;l1"));
        check.due("8: AWAKE once", 1, x.count(3));
        check.due("8: it EATS the least that is no RUBY", 7, x.told(2, 3));
        check.due("8: what is behind is not done", 3, x.of(1, 3));
    }

    /** "or can't be (nothing lies there, it is not in THE BAG)". */
    private static void nightTillOneCannotBe() {
        Twins.Calls setup = x -> Check.heap(x, "c3@0,c3@1,c3,c9@4");
        for (String text : new String[] {"l5", "p5>0", "s5=c", "da>1", "s0=b", "s0=a"}) {
            twins.changed("8: can't be: " + text, setup, 0, x -> Check.night(x, text + ";l0"), x -> { });
            twins.changed("8: can't be as the second: " + text, setup, 1, x -> Check.night(x, "dc>3;" + text + ";l0"),
                x -> x.lay(2, 3));
        }
        WormHeap x = new WormHeap();
        setup.on(x);
        check.due("8: the same one twice", 1, Check.night(x, "dc>2;dc>2;l0"));
        check.due("8: not AWAKE by what can't be", 0, x.count(3));
        check.due("8: nothing is EATEN", 0, x.count(2));
        check.due("8: what was to be FELT behind is not", 0, Check.night(x, "l5;l4"));
        check.due("8: not AWAKE by what is not done", 0, x.count(3));
    }

    private static void nightFaultsByTheByte() {
        String text = "l0;db>1;s2=a;p3>4";
        String[] may = {"ldsp", "012345", ";", "ldsp", "ab", ">", "012345", ";", "ldsp", "012345", "=", "ab", ";", "ldsp",
            "012345", ">", "01245"};
        for (int i = 0; i < text.length(); i++) {
            for (char sign = 33; sign < 127; sign++) {
                if (may[i].indexOf(sign) < 0) {
                    String spoilt = text.substring(0, i) + sign + text.substring(i + 1);
                    check.due("8: a FAULT of " + spoilt, -20 - i, Check.night(Check.made("c1@0,c1"), spoilt));
                    String cut = text.substring(0, i) + sign;
                    check.due("8: a FAULT of " + cut, -20 - i, Check.night(Check.made("c1@0,c1"), cut));
                }
            }
        }
        boolean[] ends = new boolean[text.length() + 1];
        for (int end : new int[] {2, 7, 12, 17}) {
            ends[end] = true;
        }
        for (int n = 0; n <= text.length(); n++) {
            int answer = Check.night(Check.made("c1@0,c1"), text.substring(0, n));
            check.due("8: the end behind " + n, ends[n] ? 1 : 0, answer >= 0 ? 1 : 0);
            if (!ends[n]) {
                check.due("8: the FAULT of the end behind " + n, -20 - n, answer);
            }
            String spaced = text.substring(0, n) + "  " + text.substring(n);
            check.due("8: blanks at " + n, 2, Check.night(Check.made("c1@0,c1"), spaced));
        }
        check.due("8: the last byte of a full tape", -139, Check.night(new WormHeap(), "l0" + " ".repeat(117) + "x"));
        check.due("8: the end of a full tape", -140, Check.night(new WormHeap(), "l0" + " ".repeat(117) + ";"));
        check.due("8: a full tape", 0, Check.night(new WormHeap(), " ".repeat(118) + "l0"));
    }

    /** "A FAULT (nothing is done; of a PIECE that there is not, too)". */
    private static void nightFaultsLeaveAll() {
        Object[][] faults = {{"", 0}, {" ", 1}, {"x", 0}, {"l0;", 3}, {"p1>2;p1>1", 8}, {"p5>0;di>0", 6}, {"p5>0;s0=i", 8},
            {"p5>0;l6", 6}, {"p5>0 l1", 5}, {"dc>0;s9=a", 6}, {"l1;l2;l3;q", 9}};
        for (Object[] fault : faults) {
            String text = (String) fault[0];
            int due = -20 - (Integer) fault[1];
            twins.changed("8: a FAULT of " + text, EdgeTextsTest::some, due, x -> Check.night(x, text), x -> { });
        }
        twins.changed("8: a FAULT without PIECES", x -> { }, -21, x -> Check.night(x, "da>0;l0"), x -> { });
    }
}
