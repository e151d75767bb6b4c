import java.util.function.Consumer;
import java.util.function.Supplier;

/**
 * Two objects that were made alike, of which one got further calls: whether nothing tells them apart. They are
 * made anew for each part of the questions, for an object is used for 512 calls at most.
 */
final class Twins {
    /** One kind of questions, its answers as a text. */
    private interface Part {
        String ask(BreakSetter x);
    }

    private static final Part[] PARTS = {Twins::facts, Twins::slots, Twins::reasons, Twins::ways, Twins::pastActs,
        Twins::tape};

    private final Edges edges;

    Twins(Edges edges) {
        this.edges = edges;
    }

    void stayAlike(String calls, Supplier<BreakSetter> made, Consumer<BreakSetter> further) {
        for (int part = 0; part < PARTS.length; part++) {
            BreakSetter plain = made.get();
            BreakSetter other = made.get();
            further.accept(other);
            edges.same("part " + part + " behind " + calls, PARTS[part].ask(other), PARTS[part].ask(plain));
        }
    }

    /**
     * Two posts, three shifts, four pauses, three of them placed; three acts to undo, a fault of kind 2, and a
     * tape that is a text up to its end.
     */
    static BreakSetter busy() {
        BreakSetter x = busyBehind("posts 4 1;");
        Checks.feed(x, "posts 1 3;need");
        return x;
    }

    /** The fault comes ahead of the acts, so that what another one does to them is seen. */
    static BreakSetter busyBehind(String faulty) {
        BreakSetter x = Checks.told("posts 2 2;need 0 0 9 2;need 1 3 5 1;shift 0 0 9 pause 2 2 6 pause 1 0 9;"
                + "shift 0 0 11 pause 1 3 3;shift 1 0 11 pause 4 0 8;");
        Checks.tell(x, faulty);
        x.place(0, 6);
        x.place(1, 3);
        x.place(3, 0);
        return x;
    }

    private static String facts(BreakSetter x) {
        StringBuilder all = new StringBuilder();
        for (int what = 0; what <= 7; what++) {
            all.append(x.now(what)).append(' ');
        }
        for (int what = 0; what <= 4; what++) {
            for (int shift = 0; shift < x.now(1); shift++) {
                all.append(x.shift(shift, what)).append(' ');
            }
            for (int pause = 0; pause < x.now(2); pause++) {
                all.append(x.pause(pause, what)).append(' ');
            }
        }
        for (int pause = 0; pause < x.now(2); pause++) {
            all.append("best ").append(x.best(pause)).append(' ');
        }
        all.append(x.fault()).append(' ').append(x.better()).append(' ').append(x.worst());
        return all.toString();
    }

    private static String slots(BreakSetter x) {
        StringBuilder all = new StringBuilder();
        for (int post = 0; post < x.now(0); post++) {
            for (int slot = 0; slot < 48; slot++) {
                for (int what = 0; what <= 2; what++) {
                    all.append(x.slot(post, slot, what)).append(' ');
                }
            }
        }
        return all.toString();
    }

    private static String reasons(BreakSetter x) {
        StringBuilder all = new StringBuilder();
        for (int pause = 0; pause < Math.min(4, x.now(2)); pause++) {
            for (int slot = 0; slot < 48; slot++) {
                all.append(x.why(pause, slot)).append(',').append(x.would(pause, slot)).append(' ');
            }
        }
        return all.toString();
    }

    private static String ways(BreakSetter x) {
        StringBuilder all = new StringBuilder();
        for (int post = 0; post < x.now(0); post++) {
            all.append(x.least(post)).append(' ').append(x.relief(post, -1)).append(": ");
            for (int slot = 0; slot < 48; slot++) {
                all.append(x.relief(post, slot));
            }
            all.append(' ');
        }
        return all.toString();
    }

    /** What can be undone: all of it is. */
    private static String pastActs(BreakSetter x) {
        StringBuilder all = new StringBuilder();
        for (int undone = 0; undone < 12; undone++) {
            all.append(x.undo()).append(": ").append(x.now(4));
            for (int pause = 0; pause < x.now(2); pause++) {
                all.append(' ').append(x.pause(pause, 4));
            }
            all.append(", ");
        }
        return all.toString();
    }

    /** The tape, by what it is as a text. */
    private static String tape(BreakSetter x) {
        int bytes = x.now(7);
        return bytes + " " + x.text() + " " + x.fault() + " " + x.now(0) + " " + x.now(5) + " " + x.now(7);
    }
}
