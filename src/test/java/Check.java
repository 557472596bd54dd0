/** Counts and prints the answers that are not as due; every test of the project ends with done. */
final class Check {
    private final String name;
    private int wrong;
    private int asked;

    Check(String name) {
        this.name = name;
    }

    void due(String call, long want, long got) {
        asked++;
        if (got != want) {
            wrong++;
            if (wrong <= 50) {
                System.out.println(name + ": " + call + " answered " + got + ", due is " + want);
            }
        }
    }

    void holds(String what, boolean so) {
        due(what, 1, so ? 1 : 0);
    }

    boolean anyWrong() {
        return wrong > 0;
    }

    void done() {
        System.out.println(name + ": " + asked + " answers, " + wrong + " not as due");
        if (wrong != 0) {
            System.exit(1);
        }
    }

    /** Types a text, up to eight bytes a call. */
    static void write(WormHeap x, String text) {
        for (int i = 0; i < text.length(); i += 8) {
            String part = text.substring(i, Math.min(text.length(), i + 8));
            x.type(word(part), part.length());
        }
    }

    static long word(String part) {
        long w = 0;
        for (int i = 0; i < part.length(); i++) {
            w = w << 8 | part.charAt(i);
        }
        return w;
    }

    static int heap(WormHeap x, String text) {
        write(x, text);
        return x.heap();
    }

    static int night(WormHeap x, String text) {
        write(x, text);
        return x.night();
    }

    /** An object that holds a heap. */
    static WormHeap made(String text) {
        WormHeap x = new WormHeap();
        int read = heap(x, text);
        if (read < 1) {
            throw new IllegalStateException("no heap: " + text + " " + read);
        }
        return x;
    }

    /** A sheet becomes a row of a lane with these items. */
    static void fill(WormHeap x, int sheet, int lane, long... items) {
        x.sheet(sheet, lane, items.length);
        for (int i = 0; i < items.length; i++) {
            x.item(sheet, lane, i, items[i]);
        }
    }
}
