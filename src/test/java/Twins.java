import java.util.ArrayList;
import java.util.List;

/**
 * Two objects with the same calls behind them: what is refused by one must leave it like the other. All that can be
 * asked is asked then; the asking uses the objects up, in some 350 calls.
 */
final class Twins {
    /** Calls that make a state. */
    interface Calls {
        void on(WormHeap x);
    }

    /** One call and its answer. */
    interface Call {
        int on(WormHeap x);
    }

    private final Check check;

    Twins(Check check) {
        this.check = check;
    }

    /** The call is answered as due, and nothing is changed by it. */
    void unchanged(String sentence, Calls setup, int due, Call call) {
        changed(sentence, setup, due, call, x -> { });
    }

    /** The call is answered as due, and leaves the state that is left by other calls instead of it. */
    void changed(String sentence, Calls setup, int due, Call call, Calls instead) {
        WormHeap one = new WormHeap();
        WormHeap other = new WormHeap();
        setup.on(one);
        setup.on(other);
        check.due(sentence, due, call.on(one));
        instead.on(other);
        same(sentence, one, other);
    }

    /** Both answer alike, whatever they are asked. */
    void same(String sentence, WormHeap one, WormHeap other) {
        List<String> asked = new ArrayList<>();
        List<Integer> got = answers(one, asked);
        List<Integer> want = answers(other, new ArrayList<>());
        for (int i = 0; i < asked.size(); i++) {
            int due = i < want.size() ? want.get(i) : Integer.MIN_VALUE;
            check.due(sentence + ", then " + asked.get(i), due, got.get(i));
        }
        check.due(sentence + ": as many answers", want.size(), got.size());
    }

    private static List<Integer> answers(WormHeap x, List<String> asked) {
        List<Integer> answers = new ArrayList<>();
        pieces(x, "", asked, answers);
        add(asked, answers, "type", x.type(' ', 1));
        add(asked, answers, "heap", x.heap());
        for (int place = 0; place < 6; place++) {
            add(asked, answers, "of the heap(" + place + ", 0)", x.of(place, 0));
            add(asked, answers, "of the heap(" + place + ", 3)", x.of(place, 3));
        }
        add(asked, answers, "restore", x.restore());
        pieces(x, "restored ", asked, answers);
        sheets(x, asked, answers);
        return answers;
    }

    private static void add(List<String> asked, List<Integer> answers, String call, int answer) {
        asked.add(call);
        answers.add(answer);
    }

    private static void pieces(WormHeap x, String when, List<String> asked, List<Integer> answers) {
        for (int piece = 0; piece < 12; piece++) {
            for (int what = 0; what < 5; what++) {
                add(asked, answers, when + "told(" + piece + ", " + what + ")", x.told(piece, what));
            }
        }
        for (int place = 0; place < 6; place++) {
            for (int what = 0; what < 4; what++) {
                add(asked, answers, when + "of(" + place + ", " + what + ")", x.of(place, what));
            }
        }
        for (int what = 0; what < 6; what++) {
            add(asked, answers, when + "count(" + what + ")", x.count(what));
        }
    }

    /** Items 0 .. 127 of the sheets 0 to 2 are read by dents of gold that halves; of sheet 3 how many there are. */
    private static void sheets(WormHeap x, List<String> asked, List<Integer> answers) {
        Check.heap(x, "c1@0,c2@0,c4@0,c8@0,c16@0,c32@0,c64@0");
        add(asked, answers, "lane of sheet 3", laneOf(x, 3));
        add(asked, answers, "drop(3)", x.drop(3));
        for (int sheet = 0; sheet < 3; sheet++) {
            int lane = laneOf(x, sheet);
            add(asked, answers, "lane of sheet " + sheet, lane);
            x.sheet(3, Math.max(lane, 0), 6);
            for (int i = 0; lane >= 0 && i < 24 && x.copy(sheet, i, 3, 0, 1) == 1; i++) {
                add(asked, answers, "item " + i + " of sheet " + sheet, x.dents(3, lane, 0, 1));
            }
            add(asked, answers, "drop(" + sheet + ")", x.drop(sheet));
        }
    }

    private static int laneOf(WormHeap x, int sheet) {
        for (int lane = 0; lane < 3; lane++) {
            int answer = x.film(sheet, lane, -1);
            if (answer == WormHeap.NULL) {
                return -1;
            }
            if (answer != WormHeap.CAST) {
                return lane;
            }
        }
        return 3;
    }
}
