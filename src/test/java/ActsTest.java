/** Promises 10 to 17: the acts, turning over, HAD, UNDER, OWN. */
final class ActsTest {
    private static final int LEAST = Integer.MIN_VALUE, MOST = Integer.MAX_VALUE;
    private static final int[] NO_PLACES = {-1, 6, 7, LEAST, MOST};
    private static final Check check = new Check("ActsTest");

    public static void main(String[] args) {
        lift();
        eat();
        lay();
        swap();
        push();
        turn();
        had();
        hadByFewest();
        under();
        own();
        check.done();
    }

    private static void lift() {
        WormHeap x = Check.made("c4@0,c3@0,k1@1,k2@2");
        check.due("10: by its sense", 1, x.lift(0));
        check.due("10: in the bag", 6, x.told(1, 3));
        check.due("10: above its sense", WormHeap.FULL, x.lift(0));
        check.due("10: not done", 0, x.of(0, 3));
        check.due("10: awake", 1, x.count(3));
        check.due("10: a cup weighs 2 more", 2, x.lift(1));
        check.due("10: felt", WormHeap.FULL, x.lift(2));
        check.due("10: none lies there", WormHeap.NOT, x.lift(1));
        check.due("10: awake twice", 2, x.count(3));
        for (int place : NO_PLACES) {
            check.due("10: BAD", WormHeap.BAD, x.lift(place));
        }
        x.sense(0, 4);
        check.due("10: by a sense", 0, x.lift(0));
        WormHeap y = Check.made("c1@0");
        y.sense(0, 0);
        check.due("10: by a sense of 0", WormHeap.FULL, y.lift(0));
    }

    private static void eat() {
        WormHeap x = Check.made("c99@0,r1,c9,k6,c8,l8,k99");
        // k6 weighs 8 like c8 and l8: of like ones the first.
        int[] order = {3, 4, 5, 2, 6};
        for (int i = 0; i < order.length; i++) {
            check.due("10: felt", WormHeap.FULL, x.lift(0));
            check.due("10: eaten", 7, x.told(order[i], 3));
            check.due("10: as many eaten", i + 1, x.count(2));
        }
        check.due("10: felt, none to eat", WormHeap.FULL, x.lift(0));
        check.due("10: a ruby is never eaten", 6, x.told(1, 3));
        check.due("10: five eaten", 5, x.count(2));
        check.due("10: six times awake", 6, x.count(3));
        check.due("10: eaten by a felt lay, too", WormHeap.NOT, x.lay(3, 1));
    }

    private static void lay() {
        WormHeap x = Check.made("c3@0,c3,k1,c4,r2");
        check.due("11: load", 6, x.lay(1, 0));
        check.due("11: on top", 1, x.of(0, 3));
        check.due("11: load with a cup", 9, x.lay(2, 0));
        check.due("11: felt", WormHeap.FULL, x.lay(3, 0));
        check.due("11: and eaten itself", 7, x.told(3, 3));
        check.due("11: eaten", WormHeap.NOT, x.lay(3, 0));
        check.due("11: in a place", WormHeap.NOT, x.lay(0, 1));
        check.due("11: an empty place", 2, x.lay(4, 5));
        for (int place : NO_PLACES) {
            check.due("11: BAD", WormHeap.BAD, x.lay(0, place));
        }
        for (int piece : new int[] {-1, 5, 11, 12, LEAST, MOST}) {
            check.due("11: BAD", WormHeap.BAD, x.lay(piece, 0));
        }
        check.due("11: once awake", 1, x.count(3));
    }

    private static void swap() {
        WormHeap x = Check.made("c9@0,k10@0,l9,c15,c8@1,c16");
        check.due("12: as heavy but for 3", 1, x.swap(0, 2));
        check.due("12: lies there", 2, x.of(0, 3));
        check.due("12: on what lay there", 0, x.told(0, 3));
        check.due("12: load", 18, x.of(0, 0));
        check.due("12: heavier by 3", 2, x.swap(0, 1));
        check.due("12: heavier by 4", WormHeap.FULL, x.swap(0, 5));
        check.due("12: eaten is the lead", 7, x.told(2, 3));
        check.due("12: not in the bag", WormHeap.NOT, x.swap(0, 4));
        check.due("12: eaten", WormHeap.NOT, x.swap(0, 2));
        check.due("12: itself", WormHeap.NOT, x.swap(0, 1));
        check.due("12: none lies there", WormHeap.NOT, x.swap(3, 3));
        for (int place : NO_PLACES) {
            check.due("12: BAD", WormHeap.BAD, x.swap(place, 3));
        }
        for (int piece : new int[] {-1, 6, 12, LEAST, MOST}) {
            check.due("12: BAD", WormHeap.BAD, x.swap(0, piece));
            check.due("12: BAD ahead of NOT", WormHeap.BAD, x.swap(3, piece));
        }
        check.due("12: lighter by 4", WormHeap.FULL, Check.made("c9@0,c5").swap(0, 1));
    }

    private static void push() {
        WormHeap x = Check.made("c3@0,c3@0,c5@1");
        check.due("13: the piece", 1, x.push(0, 1));
        check.due("13: on top", 1, x.of(1, 3));
        check.due("13: load", 8, x.of(1, 0));
        check.due("13: load there", 3, x.of(0, 0));
        check.due("13: back", 1, x.push(1, 5));
        check.due("13: felt", WormHeap.FULL, x.push(1, 0));
        x.sense(1, 5);
        check.due("13: felt in the other place", WormHeap.FULL, x.push(1, 0));
        check.due("13: not done", 2, x.of(1, 3));
        x.sense(0, 5);
        check.due("13: felt in neither", 2, x.push(1, 0));
        x.sense(1, 3);
        check.due("13: felt in the other place alone", WormHeap.FULL, x.push(0, 1));
        check.due("13: awake", 3, x.count(3));
        check.due("13: none lies there", WormHeap.NOT, x.push(2, 3));
        check.due("13: one and the same", WormHeap.BAD, x.push(2, 2));
        for (int place : NO_PLACES) {
            check.due("13: BAD", WormHeap.BAD, x.push(place, 0));
            check.due("13: BAD", WormHeap.BAD, x.push(0, place));
            check.due("13: BAD", WormHeap.BAD, x.push(2, place));
        }
    }

    private static void turn() {
        WormHeap x = Check.made("c1@0,c2@0,c3@0,c4@5,c5@2,c6@2,c7,c9@4");
        x.sense(0, 77);
        x.sense(3, 33);
        check.due("14: how many", 7, x.turn());
        int[] tops = {3, 7, 12, 4, 12, 0};
        int[] loads = {4, 9, 0, 11, 0, 6};
        int[] senses = {77, 3, 3, 33, 3, 3};
        for (int place = 0; place < 6; place++) {
            check.due("14: top " + place, tops[place], x.of(place, 3));
            check.due("14: load " + place, loads[place], x.of(place, 0));
            check.due("14: sense " + place, senses[place], x.of(place, 2));
        }
        int[] off = {0, 1, 2, 0, 0, 1, 0, 0};
        int[] places = {5, 5, 5, 0, 3, 3, 6, 1};
        for (int piece = 0; piece < 8; piece++) {
            check.due("14: off " + piece, off[piece], x.told(piece, 4));
            check.due("14: place " + piece, places[piece], x.told(piece, 3));
        }
        check.due("14: no act", 0, x.count(3));
        check.due("14: again", 7, x.turn());
        check.due("14: as before", 2, x.of(0, 3));
        check.due("14: as before", 2, x.told(0, 4));
        check.due("14: nothing", 0, new WormHeap().turn());
        check.due("14: felt", WormHeap.FULL, x.lift(4));
        check.due("14: nor what is eaten", 7, x.turn());
        check.due("14: it stays eaten", 7, x.told(6, 3));
    }

    private static void dueRow(String heap, int piece, int... row) {
        WormHeap x = Check.made(heap);
        dueRow(x, heap, piece, row);
    }

    private static void dueRow(WormHeap x, String heap, int piece, int... row) {
        check.due("15: acts of " + heap, row.length, x.had(piece, -1));
        for (int i = 0; i < 3; i++) {
            check.due("15: act " + i + " of " + heap, i < row.length ? row[i] : WormHeap.NONE, x.had(piece, i));
        }
    }

    private static void had() {
        dueRow("c99", 0);
        dueRow("c3@4", 0, 400);
        dueRow("c9@4,c8,c9", 0, 2401);
        dueRow("c9@4,c5,c9", 0, 2402);
        dueRow("c1@3,c2@3", 0, 300, 300);
        dueRow("c1@3,c2@3,c3@3", 0, 300, 300, 300);
        WormHeap x = Check.made("c1@3,c1@3,c1@3,c1@3");
        check.due("15: not in 3", WormHeap.NONE, x.had(0, -1));
        check.due("15: not in 3", WormHeap.NONE, x.had(0, 0));
        check.due("15: nothing is done", 3, x.of(3, 3));
        check.due("15: by none", WormHeap.NONE, Check.made("c9@0").had(0, -1));
        for (int w : new int[] {-2, 3, LEAST, MOST}) {
            check.due("15: BAD", WormHeap.BAD, x.had(0, w));
        }
        for (int w : new int[] {-1, 4, 11, 12, LEAST, MOST}) {
            check.due("15: BAD", WormHeap.BAD, x.had(w, 0));
        }
        WormHeap y = Check.made("c9@0,c1");
        y.lift(0);
        check.due("15: eaten", WormHeap.NOT, y.had(1, -1));
        check.due("15: eaten", WormHeap.NOT, y.had(1, 2));
        check.due("15: BAD ahead of NOT", WormHeap.BAD, y.had(1, 3));
    }

    private static void hadByFewest() {
        // The like-heavy piece must be fetched first: from a place that does not feel it.
        WormHeap x = Check.made("c9@0,c9@2");
        x.sense(2, 9);
        dueRow(x, "fetch", 0, 200, 2001);
        check.due("15: unfelt and undone", 0, x.count(3) + x.count(1));
        // Neither place feels the push, the second one not the lift either; the lift from the first one is felt.
        WormHeap y = Check.made("c50@1,c2@1,c50@3");
        y.sense(3, 60);
        dueRow(y, "fetch and uncover", 0, 100, 300, 2102);
        WormHeap z = Check.made("c5@0,c5@0,c5@0");
        z.sense(0, 5);
        dueRow(z, "three lifts", 0, 0, 0, 0);
        // What lies on it can go to another place only for a piece, and that one uncovers nothing: pushes are needed.
        WormHeap w = Check.made("c4@0,c4@1");
        w.sense(1, 4);
        w.sense(2, 4);
        dueRow(w, "by the other's gold", 0, 100, 2001);
        // A swap that fetches a like piece by lead, then the swap that takes the cup.
        dueRow("k20@5,c22@0,l22", 0, 2502);
        dueRow("k20@5,c22@0,l25@1,l28", 0, 2103, 2502);
        dueRow("k20@5,c31@0,l25@1,l28@2,l31", 0, 2204, 2103, 2502);
        // Nothing but the push from a place that feels finely into one that does not.
        WormHeap v = Check.made("c7@0,c7@0,c6");
        v.sense(0, 1);
        dueRow(v, "one piece for two", 1, 2002);
        check.due("15: the other one is in 2 more", WormHeap.NONE, v.had(0, -1));
        WormHeap u = Check.made("c7@0,c2@0,k5@1");
        u.sense(1, 7);
        dueRow(u, "lift, lift, swap", 0, 0, 100, 2002);
        u.sense(0, 7);
        dueRow(u, "the first codes", 0, 0, 0);
        WormHeap p = Check.made("c7@0,c2@0");
        p.sense(0, 7);
        dueRow(p, "codes of lifts first", 0, 0, 0);
        // The bag is empty and lifts are felt in the piece's own place: it is pushed where it sleeps deeper.
        WormHeap q = Check.made("c7@1,c7@3");
        q.sense(1, 6);
        q.sense(3, 7);
        dueRow(q, "fetched", 0, 300, 2101);
        check.due("15: a lift", 300, q.had(1, 0));
    }

    private static void under() {
        WormHeap x = Check.made("c1t0@0,c1t1@0,l1t1@0,r1t0@0,k1t2@0,c1t1@1,c1t0@1,c1t0@2,c1t0@2,c1t3");
        int[] due = {3, 3, 0, 0};
        for (int town = 0; town < 4; town++) {
            check.due("16: under(" + town + ")", due[town], x.under(town));
        }
        x.turn();
        int[] turned = {2, 1, 3, 0};
        for (int town = 0; town < 4; town++) {
            check.due("16: turned under(" + town + ")", turned[town], x.under(town));
        }
        for (int w : new int[] {-1, 4, LEAST, MOST}) {
            check.due("16: BAD", WormHeap.BAD, x.under(w));
        }
        check.due("16: lead on it, lead under it", 0, Check.made("l1t1@0,c1t1@0,l1t2@0").under(1));
    }

    private static void own() {
        check.due("17: nothing", 0, new WormHeap().own());
        check.due("17: lead", 0, Check.made("l1t0@0,l1t1@0,c1t2@0").own());
        check.due("17: each needs one", 1, Check.made("c1t0@0,c1t1@0").own());
        check.due("17: the greater part", 1, Check.made("c1t0@0,c1t1@0,c1t1@0").own());
        check.due("17: several are one town's", 0, Check.made("c1t2@0,c1t2@3,c1t2@5").own());
        check.due("17: one place is for all", 3, Check.made("c1t0@0,c1t1@0,c1t2@0,c1t3@0").own());
        check.due("17: in the bag", 0, Check.made("c1t0@0,c1t1").own());
        check.due("17: no place for who has nothing there", 0, Check.made("c1t1@0,c1t1@1,c1t1@2,c1t1@3,c1t1@4,c1t1@5,"
            + "c1t0,l1t2@0").own());
        check.due("17: one for who has a piece there", 2, Check.made("c1t0@0,c1t1@0,c1t1@0,c1t1@1,c1t1@2,c1t1@3,"
            + "c1t1@4,c1t1@5").own());
        check.due("17: two give way, three are astray", 5, Check.made("c1t0@0,c1t0@1,c1t0@2,c1t0@3,c1t0@4,c1t0@5,"
            + "c1t1@0,c1t2@0,c1t3@0").own());
    }
}
