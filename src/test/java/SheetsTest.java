/** Promises 22 to 28: dents, tries, films, sheets. */
final class SheetsTest {
    private static final int LEAST = Integer.MIN_VALUE, MOST = Integer.MAX_VALUE;
    private static final int[] NO_SHEETS = {-1, 4, LEAST, MOST};
    private static final int[] NO_LANES = {-1, 3, LEAST, MOST};
    private static final Check check = new Check("SheetsTest");

    public static void main(String[] args) {
        dents();
        dentsRefused();
        tried();
        triedRefused();
        film();
        sheet();
        drop();
        item();
        copy();
        copyRefused();
        check.done();
    }

    private static void dueDents(String heap, int sets, int first, long... items) {
        WormHeap x = Check.made(heap);
        Check.fill(x, 3, 2, items);
        check.due("22: sets of " + heap, sets, x.dents(3, 2, 0, 0));
        check.due("22: the first of " + heap, first, x.dents(3, 2, 0, 1));
        check.due("22: nothing is gone", heap.split(",").length, x.count(0));
    }

    private static void dents() {
        dueDents("c5@0", 1, 0, 0, 0, 0, 0, 0, 0);
        dueDents("c5@0", 1, 1, 5, 0, 0, 0, 0, 0);
        dueDents("k3@0", 1, 1, 5, 0, 0, 0, 0, 0);
        dueDents("c5@0", 0, WormHeap.NONE, 0, 5, 0, 0, 0, 0);
        dueDents("c5@0", 0, WormHeap.NONE, 5, 0, 0, 0, 0, -5);
        dueDents("c5@0", 0, WormHeap.NONE, -5, 0, 0, 0, 0, 0);
        dueDents("c5", 0, WormHeap.NONE, 5, 0, 0, 0, 0, 0);
        dueDents("c5", 0, WormHeap.NONE, 4294967301L, 0, 0, 0, 0, 0);
        dueDents("c5@0", 0, WormHeap.NONE, 4294967301L, 0, 0, 0, 0, 0);
        dueDents("c5@0", 0, WormHeap.NONE, Long.MIN_VALUE, 0, 0, 0, 0, Long.MAX_VALUE);
        // Of one weight: the two first ones.
        dueDents("c5@2,c5@2,c5@2,c5@2", 6, 3, 0, 0, 10, 0, 0, 0);
        // The least as a number: 5 = 2 + 3 by the lowest bits, ahead of the third alone.
        dueDents("c2@1,c3@1,c5@1", 2, 3, 0, 5, 0, 0, 0, 0);
        dueDents("c5@1,c2@1,c3@1", 2, 1, 0, 5, 0, 0, 0, 0);
        dueDents("c2@5,c9@0,c3@5,c5@5,k7@0", 4, 7, 9, 0, 0, 0, 0, 5);
        dueDents("c1@0,c1@0,c1@0,c1@0,c1@0,c1@0,c1@0,c1@0,c1@0,c1@0,c1@0,c1@0", 924, 63, 6, 0, 0, 0, 0, 0);
        dueDents("c1@0,c1@1,c1@2,c1@3,c1@4,c1@5,c1@0,c1@1,c1@2,c1@3,c1@4,c1@5", 64, 63, 1, 1, 1, 1, 1, 1);
        WormHeap x = Check.made("c7@0,c9@1");
        Check.fill(x, 0, 0, 50, 7, 9, 0, 0, 0, 0);
        check.due("22: from one on", 1, x.dents(0, 0, 1, 0));
        check.due("22: from one on", 3, x.dents(0, 0, 1, 1));
        check.due("22: from 0", 0, x.dents(0, 0, 0, 0));
    }

    private static void dentsRefused() {
        WormHeap x = Check.made("c5@0");
        x.sheet(0, 1, 6);
        x.sheet(1, 1, 5);
        for (int w : NO_SHEETS) {
            check.due("22: BAD", WormHeap.BAD, x.dents(w, 1, 0, 0));
        }
        for (int w : NO_LANES) {
            check.due("22: BAD", WormHeap.BAD, x.dents(0, w, 0, 0));
            check.due("22: BAD ahead of NULL", WormHeap.BAD, x.dents(2, w, 0, 0));
        }
        for (int w : new int[] {-1, 2, LEAST, MOST}) {
            check.due("22: BAD", WormHeap.BAD, x.dents(0, 1, 0, w));
            check.due("22: BAD ahead of INDEX", WormHeap.BAD, x.dents(0, 1, -1, w));
        }
        check.due("22: NULL", WormHeap.NULL, x.dents(2, 1, -1, 0));
        check.due("22: CAST", WormHeap.CAST, x.dents(0, 0, -1, 0));
        check.due("22: CAST", WormHeap.CAST, x.dents(0, 2, 0, 0));
        for (int w : new int[] {-1, 1, 6, 24, LEAST, MOST, MOST - 5}) {
            check.due("22: INDEX", WormHeap.INDEX, x.dents(0, 1, w, 0));
        }
        check.due("22: INDEX", WormHeap.INDEX, x.dents(1, 1, 0, 0));
        check.due("22: the last", 1, x.dents(0, 1, 0, 0));
    }

    private static void dueTried(int least, int most, int next, long... items) {
        WormHeap x = new WormHeap();
        Check.fill(x, 1, 1, items);
        int n = items.length / 2;
        check.due("23: least", least, x.tried(1, 1, 0, n, 0));
        check.due("23: most", most, x.tried(1, 1, 0, n, 1));
        check.due("23: next", next, x.tried(1, 1, 0, n, 2));
    }

    private static void tried() {
        int none = WormHeap.NONE;
        dueTried(0, 99, 50, 0, 0);
        dueTried(none, none, none, 0, 1);
        dueTried(0, 0, none, 1, 1);
        dueTried(0, 1, 1, 2, 1);
        dueTried(0, 2, 1, 3, 1);
        dueTried(0, 98, 49, 99, 1);
        dueTried(99, 99, none, 99, 0);
        dueTried(98, 99, 99, 98, 0);
        dueTried(97, 99, 98, 97, 0);
        dueTried(10, 19, 15, 10, 0, 20, 1);
        dueTried(10, 14, 12, 10, 0, 15, 1, 20, 1, 7, 0);
        dueTried(10, 10, none, 10, 0, 11, 1);
        dueTried(none, none, none, 10, 0, 10, 1);
        dueTried(none, none, none, 50, 0, 10, 1);
        dueTried(30, 39, 35, 30, 0, 29, 0, 28, 0, 40, 1, 41, 1, 42, 1, 99, 1, 0, 0);
        WormHeap x = new WormHeap();
        Check.fill(x, 0, 0, 99, 1, 20, 1, 10, 0);
        check.due("23: from one on", 10, x.tried(0, 0, 2, 2, 0));
        check.due("23: from one on", 19, x.tried(0, 0, 2, 2, 1));
        check.due("23: the first alone", 98, x.tried(0, 0, 0, 1, 1));
        check.due("23: of the last alone", 10, x.tried(0, 0, 4, 1, 0));
        check.due("23: of the last alone", 99, x.tried(0, 0, 4, 1, 1));
    }

    private static void triedRefused() {
        WormHeap x = new WormHeap();
        Check.fill(x, 0, 2, 5, 0, 0, 0, 0);
        for (int w : NO_SHEETS) {
            check.due("23: BAD", WormHeap.BAD, x.tried(w, 2, 0, 1, 0));
        }
        for (int w : NO_LANES) {
            check.due("23: BAD", WormHeap.BAD, x.tried(0, w, 0, 1, 0));
        }
        for (int w : new int[] {0, 9, -1, LEAST, MOST}) {
            check.due("23: BAD", WormHeap.BAD, x.tried(0, 2, 0, w, 0));
            check.due("23: BAD ahead of NULL", WormHeap.BAD, x.tried(3, 2, 0, w, 0));
        }
        for (int w : new int[] {-1, 3, LEAST, MOST}) {
            check.due("23: BAD", WormHeap.BAD, x.tried(0, 2, 0, 1, w));
        }
        check.due("23: NULL", WormHeap.NULL, x.tried(1, 2, -1, 1, 0));
        check.due("23: CAST", WormHeap.CAST, x.tried(0, 1, -1, 1, 0));
        for (int w : new int[] {-1, 4, 5, LEAST, MOST}) {
            check.due("23: INDEX", WormHeap.INDEX, x.tried(0, 2, w, 1, 0));
        }
        check.due("23: INDEX", WormHeap.INDEX, x.tried(0, 2, 0, 3, 0));
        check.due("23: not the last", 0, x.tried(0, 2, 1, 2, 0));
        check.due("23: as told", 5, x.tried(0, 2, 0, 2, 0));
        long[][] wrong = {{-1, 0}, {100, 0}, {5, 2}, {5, -1}, {4294967296L, 0}, {5, 4294967296L}, {5, 4294967297L},
            {Long.MIN_VALUE, 0}, {Long.MAX_VALUE, 0}, {5, Long.MIN_VALUE}};
        for (long[] w : wrong) {
            Check.fill(x, 2, 2, 5, 0, w[0], w[1]);
            for (int what = 0; what < 3; what++) {
                check.due("23: NOT", WormHeap.NOT, x.tried(2, 2, 0, 2, what));
            }
            check.due("23: the first is as told", 5, x.tried(2, 2, 0, 1, 0));
            check.due("23: INDEX ahead of NOT", WormHeap.INDEX, x.tried(2, 2, 2, 2, 0));
        }
        Check.fill(x, 2, 1, 5, 1, 9, 0, 100, 0);
        check.due("23: NOT ahead of NONE", WormHeap.NOT, x.tried(2, 1, 0, 3, 0));
    }

    private static void film() {
        for (int lane = 0; lane < 3; lane++) {
            WormHeap x = Check.made("c1@0,k2@1,c3@2,l4@3,r5@4,c45@5,c45@5,c7");
            x.sheet(0, lane, 8);
            x.item(0, lane, 0, 77);
            x.item(0, lane, 7, 66);
            check.due("24: six", 6, x.film(0, lane, 1));
            dueRow(x, 0, lane, 77, 1, 4, 3, 4, 5, 90, 66);
        }
        // 198 as a byte is -58: no such dent.
        WormHeap x = Check.made("c1@0,k2@1,c3@2,c4@3,c5@4,c99@5,c99@5,c99");
        x.sheet(1, 0, 6);
        x.film(1, 0, 0);
        check.due("24: by its lowest bits", 0, x.dents(1, 0, 0, 0));
        x.item(1, 0, 5, 0);
        check.due("24: the others as they are", 31, x.dents(1, 0, 0, 1));
        x.sheet(1, 1, 6);
        x.film(1, 1, 0);
        check.due("24: ints", 127, x.dents(1, 1, 0, 1));
        WormHeap y = Check.made("c99@0,c99@0,c99@0,c99@0,c3@0");
        y.sheet(0, 0, 7);
        y.film(0, 0, 0);
        // 399 as a byte is -113.
        check.due("24: negative", WormHeap.NOT, y.tried(0, 0, 0, 1, 0));
        WormHeap z = Check.made("c99@0,c99@0,c70@0");
        z.sheet(0, 0, 7);
        z.film(0, 0, 0);
        check.due("24: 268 is 12", 12, z.tried(0, 0, 0, 1, 0));
        for (int w : NO_SHEETS) {
            check.due("24: BAD", WormHeap.BAD, z.film(w, 0, 0));
        }
        for (int w : NO_LANES) {
            check.due("24: BAD", WormHeap.BAD, z.film(0, w, 0));
            check.due("24: BAD ahead of NULL", WormHeap.BAD, z.film(3, w, 0));
        }
        check.due("24: NULL", WormHeap.NULL, z.film(3, 0, -1));
        check.due("24: CAST", WormHeap.CAST, z.film(0, 1, -1));
        for (int w : new int[] {-1, 2, 7, LEAST, MOST, MOST - 5}) {
            check.due("24: INDEX", WormHeap.INDEX, z.film(0, 0, w));
        }
        check.due("24: refused, as before", 12, z.tried(0, 0, 0, 1, 0));
        check.due("24: the last place for it", 6, z.film(0, 0, 1));
        check.due("24: and it came there", 12, z.tried(0, 0, 1, 1, 0));
    }

    private static void sheet() {
        WormHeap x = new WormHeap();
        for (int w : NO_SHEETS) {
            check.due("25: BAD", WormHeap.BAD, x.sheet(w, 0, 1));
            check.due("25: BAD ahead of SIZE", WormHeap.BAD, x.sheet(w, 0, -1));
        }
        for (int w : NO_LANES) {
            check.due("25: BAD", WormHeap.BAD, x.sheet(0, w, 1));
            check.due("25: BAD ahead of SIZE", WormHeap.BAD, x.sheet(0, w, -1));
        }
        check.due("25: BAD", WormHeap.BAD, x.sheet(0, 0, 25));
        check.due("25: BAD", WormHeap.BAD, x.sheet(0, 0, MOST));
        check.due("25: SIZE", WormHeap.SIZE, x.sheet(0, 0, -1));
        check.due("25: SIZE", WormHeap.SIZE, x.sheet(0, 0, LEAST));
        check.due("25: still nothing", WormHeap.NULL, x.drop(0));
        check.due("25: 0", 0, x.sheet(0, 0, 0));
        check.due("25: 24", 24, x.sheet(1, 2, 24));
        x.item(1, 2, 23, 8);
        check.due("25: SIZE", WormHeap.SIZE, x.sheet(1, 0, -1));
        check.due("25: refused, as before", 24, x.drop(1));
        check.due("25: again", 24, x.sheet(1, 1, 24));
        check.due("25: new items are 0", 0, x.tried(1, 1, 22, 1, 0));
        x.item(1, 1, 0, 1);
        check.due("25: another row", 6, x.sheet(1, 1, 6));
        check.due("25: new items are 0", 1, x.dents(1, 1, 0, 0));
    }

    private static void drop() {
        WormHeap x = new WormHeap();
        for (int w : NO_SHEETS) {
            check.due("26: BAD", WormHeap.BAD, x.drop(w));
        }
        for (int sheet = 0; sheet < 4; sheet++) {
            x.sheet(sheet, sheet % 3, 3 * sheet);
        }
        for (int sheet = 3; sheet >= 0; sheet--) {
            check.due("26: how many", 3 * sheet, x.drop(sheet));
            check.due("26: NULL", WormHeap.NULL, x.drop(sheet));
            check.due("26: nothing is there", WormHeap.NULL, x.item(sheet, sheet % 3, 0, 0));
        }
    }

    private static void item() {
        WormHeap x = new WormHeap();
        for (int lane = 0; lane < 3; lane++) {
            x.sheet(lane, lane, 3);
            check.due("27: the last", 1, x.item(lane, lane, 2, 1));
            check.due("27: the first", 1, x.item(lane, lane, 0, -1));
            for (int w : new int[] {-1, 3, 24, LEAST, MOST}) {
                check.due("27: INDEX", WormHeap.INDEX, x.item(lane, lane, w, 0));
            }
            check.due("27: CAST", WormHeap.CAST, x.item(lane, (lane + 1) % 3, -1, 0));
            check.due("27: CAST", WormHeap.CAST, x.item(lane, (lane + 2) % 3, 0, 0));
        }
        for (int w : NO_SHEETS) {
            check.due("27: BAD", WormHeap.BAD, x.item(w, 0, 0, 0));
        }
        for (int w : NO_LANES) {
            check.due("27: BAD", WormHeap.BAD, x.item(0, w, 0, 0));
            check.due("27: BAD ahead of NULL", WormHeap.BAD, x.item(3, w, 0, 0));
        }
        check.due("27: NULL", WormHeap.NULL, x.item(3, 0, -1, 0));
        long[][] due = {
            // lane, what is given, what is held (TRIED tells it as LEAST, or NOT)
            {0, 256 + 7, 7}, {0, 128, WormHeap.NOT}, {0, 65536 + 90, 90}, {0, -256 + 9, 9}, {0, -1, WormHeap.NOT},
            {0, 4294967296L + 3, 3}, {1, 256 + 7, WormHeap.NOT}, {1, 4294967296L + 7, 7},
            {1, -4294967296L + 7, 7}, {1, 2147483648L, WormHeap.NOT}, {2, 4294967296L + 7, WormHeap.NOT},
            {2, 7, 7}, {2, Long.MIN_VALUE, WormHeap.NOT}, {0, Long.MIN_VALUE, 0}, {1, Long.MIN_VALUE, 0}};
        for (long[] d : due) {
            int lane = (int) d[0];
            x.sheet(3, lane, 2);
            check.due("27: item", 1, x.item(3, lane, 0, d[1]));
            check.due("27: holds of " + d[1], d[2], x.tried(3, lane, 0, 1, 0));
        }
    }

    /** What a sheet holds: each item comes to sheet 3 ahead of a 0, so TRIED tells it as LEAST. */
    private static void dueRow(WormHeap x, int sheet, int lane, int... items) {
        for (int i = 0; i < items.length; i++) {
            x.sheet(3, lane, 2);
            x.copy(sheet, i, 3, 0, 1);
            check.due("28: item " + i, items[i], x.tried(3, lane, 0, 1, 0));
        }
    }

    private static void copy() {
        for (int lane = 0; lane < 3; lane++) {
            WormHeap x = new WormHeap();
            Check.fill(x, 0, lane, 1, 2, 3, 4, 5, 6);
            Check.fill(x, 1, lane, 11, 12, 13);
            check.due("28: another", 2, x.copy(0, 4, 1, 1, 2));
            dueRow(x, 1, lane, 11, 5, 6);
            dueRow(x, 0, lane, 1, 2, 3, 4, 5, 6);
            check.due("28: up", 5, x.copy(0, 0, 0, 1, 5));
            dueRow(x, 0, lane, 1, 1, 2, 3, 4, 5);
            check.due("28: down", 4, x.copy(0, 2, 0, 0, 4));
            dueRow(x, 0, lane, 2, 3, 4, 5, 4, 5);
            check.due("28: all", 6, x.copy(0, 0, 0, 0, 6));
            check.due("28: none", 0, x.copy(0, 0, 1, 0, 0));
            check.due("28: none, at the ends", 0, x.copy(0, 6, 1, 3, 0));
            dueRow(x, 0, lane, 2, 3, 4, 5, 4, 5);
        }
    }

    private static void copyRefused() {
        WormHeap x = new WormHeap();
        x.sheet(0, 1, 6);
        x.sheet(1, 1, 4);
        x.sheet(2, 2, 6);
        for (int w : NO_SHEETS) {
            check.due("28: BAD", WormHeap.BAD, x.copy(w, 0, 0, 0, 1));
            check.due("28: BAD", WormHeap.BAD, x.copy(0, 0, w, 0, 1));
            check.due("28: BAD ahead of NULL", WormHeap.BAD, x.copy(3, 0, w, 0, 1));
            check.due("28: BAD ahead of NULL", WormHeap.BAD, x.copy(w, 0, 3, 0, 1));
        }
        check.due("28: NULL", WormHeap.NULL, x.copy(3, 0, 0, 0, -1));
        check.due("28: NULL", WormHeap.NULL, x.copy(0, 0, 3, 0, -1));
        check.due("28: NULL", WormHeap.NULL, x.copy(3, 0, 3, 0, 0));
        check.due("28: CAST", WormHeap.CAST, x.copy(0, 0, 2, 0, -1));
        check.due("28: CAST", WormHeap.CAST, x.copy(2, 0, 0, 0, 0));
        int[][] wrong = {{0, 0, -1}, {-1, 0, 0}, {0, -1, 0}, {7, 0, 0}, {0, 5, 0}, {0, 0, 5}, {3, 0, 4}, {0, 1, 4},
            {LEAST, 0, 0}, {0, LEAST, 0}, {0, 0, LEAST}, {MOST, 0, 1}, {0, MOST, 1}, {0, 0, MOST}, {1, 1, MOST},
            {MOST, MOST, MOST}, {LEAST, LEAST, LEAST}, {-1, -1, 1}};
        for (int[] w : wrong) {
            check.due("28: INDEX", WormHeap.INDEX, x.copy(0, w[0], 1, w[1], w[2]));
        }
        check.due("28: the last", 4, x.copy(0, 2, 1, 0, 4));
    }
}
