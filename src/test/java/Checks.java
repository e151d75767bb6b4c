import java.util.NoSuchElementException;
import java.util.function.IntSupplier;

/** What the tests share: it counts the answers that are not as due, and tells a text to an object. */
final class Checks {
    private final String title;
    private int done = 0;
    private int wrong = 0;

    Checks(String title) {
        this.title = title;
    }

    void same(String call, long got, long due) {
        done++;
        if (got != due) {
            wrong++;
            System.out.println(title + ": " + call + " answered " + got + ", due is " + due);
        }
    }

    void isTrue(String what, boolean holds) {
        same(what, holds ? 1 : 0, 1);
    }

    /** The call throws NoSuchElementException, and that very class. */
    void noSuchElement(String call, IntSupplier body) {
        String thrown = "nothing";
        try {
            body.getAsInt();
        } catch (RuntimeException e) {
            thrown = e.getClass().getName();
        }
        isTrue(call + " throws NoSuchElementException (it threw " + thrown + ")",
                thrown.equals(NoSuchElementException.class.getName()));
    }

    void finish() {
        System.out.println(title + ": " + done + " checks, " + wrong + " wrong");
        if (wrong != 0) {
            System.exit(1);
        }
    }

    /** Puts a text (characters 0 to 255) behind an empty tape. */
    static void feed(BreakSetter x, String text) {
        for (int i = 0; i < text.length(); i += 20) {
            x.feed(four(text, i), four(text, i + 4), four(text, i + 8), four(text, i + 12), four(text, i + 16));
        }
        x.end(text.length());
    }

    /** Tells a text: what text() answers. */
    static int tell(BreakSetter x, String text) {
        feed(x, text);
        return x.text();
    }

    static BreakSetter told(String text) {
        BreakSetter x = new BreakSetter();
        if (tell(x, text) < 0) {
            throw new IllegalArgumentException("a test's text has a fault: " + text);
        }
        return x;
    }

    private static int four(String text, int at) {
        int four = 0;
        for (int i = at; i < at + 4; i++) {
            four = four << 8 | (i < text.length() ? text.charAt(i) : 0);
        }
        return four;
    }
}
