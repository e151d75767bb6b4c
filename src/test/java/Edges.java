/**
 * Tests of single sentences of the document. Each test says first which sentence it holds; a wrong answer is
 * told with it. A test that quotes what the document does not say is wrong too.
 */
final class Edges {
    /** Arguments far from all that there is; some come near 0 where Java's numbers wrap around. */
    static final int[] FAR = {Integer.MIN_VALUE, Integer.MIN_VALUE + 1, -268435456, -65536, -256, -48, -2, 100, 256,
        65536, 89478486, 268435456, Integer.MAX_VALUE - 1, Integer.MAX_VALUE};

    private final Doc doc = new Doc();
    private String sentence = "";
    private int sentences = 0;
    private int done = 0;
    private int wrong = 0;

    void says(String section, String quote) {
        sentences++;
        sentence = section + ", \"" + quote + "\"";
        isTrue("the document says so", doc.quote(section, quote));
    }

    void same(String call, long got, long due) {
        done++;
        if (got != due) {
            wrong++;
            System.out.println(sentence + ": " + call + " answered " + got + ", due is " + due);
        }
    }

    void same(String call, String got, String due) {
        done++;
        if (!got.equals(due)) {
            wrong++;
            System.out.println(sentence + ": " + call + " answered\n  " + got + ", due is\n  " + due);
        }
    }

    void isTrue(String what, boolean holds) {
        same(what, holds ? 1 : 0, 1);
    }

    /** A new object reads the text: so many lines, no fault, an empty tape. */
    BreakSetter good(String text) {
        BreakSetter x = new BreakSetter();
        int lines = text.length() - text.replace(";", "").length();
        same("text \"" + text + "\"", Checks.tell(x, text), lines);
        same("fault of \"" + text + "\"", x.fault(), 0);
        same("tape behind \"" + text + "\"", x.now(7), 0);
        return x;
    }

    /** A new object finds the fault in the text, and stays as it was. */
    void bad(String text, int place, int kind) {
        BreakSetter x = new BreakSetter();
        same("text \"" + text + "\"", Checks.tell(x, text), -1 - place);
        same("fault of \"" + text + "\"", x.fault(), kind);
        int[] due = {1, 0, 0, 0, 0, 1, 0, 0};
        for (int what = 0; what < due.length; what++) {
            same("now(" + what + ") behind \"" + text + "\"", x.now(what), due[what]);
        }
    }

    /** Where the pauses are, in one row. */
    void places(String when, BreakSetter x, int... due) {
        int[] got = new int[x.now(2)];
        for (int pause = 0; pause < got.length; pause++) {
            got[pause] = x.pause(pause, 4);
        }
        same("places " + when, java.util.Arrays.toString(got), java.util.Arrays.toString(due));
    }

    void finish() {
        sentence = "the whole document";
        same("what no test has quoted", doc.leftOut(), "");
        System.out.println("EdgesTest: " + sentences + " sentences, " + done + " checks, " + wrong + " wrong");
        if (wrong != 0) {
            System.exit(1);
        }
    }
}
