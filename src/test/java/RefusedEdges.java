import java.util.NoSuchElementException;
import java.util.function.Consumer;
import java.util.function.Supplier;

/** The sentence about refused calls, for each call that can be refused; and calls that only ask. */
final class RefusedEdges {
    private final Edges edges;
    private final Twins twins;

    RefusedEdges(Edges edges) {
        this.edges = edges;
        twins = new Twins(edges);
    }

    void all() {
        refusedActs();
        refusedTape();
        refusedQuestions();
        throwingCalls();
        questions();
    }

    private void stays(String call, Consumer<BreakSetter> refused) {
        twins.stayAlike(call, Twins::busy, refused);
    }

    private void refusedActs() {
        edges.says("Terms", "A refused call, one that throws changes nothing.");
        stays("place(0, 1), WHY 1", x -> edges.same("place(0, 1)", x.place(0, 1), 1));
        stays("place(1, 5), WHY 2", x -> edges.same("place(1, 5)", x.place(1, 5), 2));
        stays("place(0, 6), it is there", x -> edges.same("place(0, 6)", x.place(0, 6), -1));
        stays("place of no such ones", x -> {
            for (int far : new int[] {-1, 48, Integer.MIN_VALUE, Integer.MAX_VALUE}) {
                edges.same("place(" + far + ", 3)", x.place(far, 3), -1);
                edges.same("place(0, " + far + ")", x.place(0, far), -1);
            }
            edges.same("place(4, 3)", x.place(4, 3), -1);
        });
        stays("take(2), it is nowhere", x -> edges.same("take(2)", x.take(2), -1));
        stays("take of no such one", x -> {
            for (int far : new int[] {-1, 4, 24, Integer.MIN_VALUE, Integer.MAX_VALUE}) {
                edges.same("take(" + far + ")", x.take(far), -1);
            }
        });
        Supplier<BreakSetter> settled = () -> {
            BreakSetter x = Twins.busy();
            x.settle();
            return x;
        };
        twins.stayAlike("settle(), there is none", settled, x -> edges.same("settle()", x.settle(), -1));
        Supplier<BreakSetter> undone = () -> {
            BreakSetter x = Twins.busy();
            x.undo();
            x.undo();
            x.undo();
            return x;
        };
        twins.stayAlike("undo(), none is", undone, x -> edges.same("undo()", x.undo(), -1));
        twins.stayAlike("acts of a new object", BreakSetter::new, x -> {
            edges.same("place(0, 0)", x.place(0, 0), -1);
            edges.same("take(0)", x.take(0), -1);
            edges.same("settle()", x.settle(), -1);
            edges.same("undo()", x.undo(), -1);
        });
    }

    private void refusedTape() {
        edges.says("Terms", "A refused call");
        stays("end() refused", x -> {
            for (int far : new int[] {-1, 15, 641, Integer.MIN_VALUE, Integer.MAX_VALUE}) {
                edges.isTrue("end(" + far + ")", !x.end(far));
            }
        });
        Supplier<BreakSetter> full = () -> {
            BreakSetter x = Twins.busyBehind("posts 4 1;");
            Checks.feed(x, "posts 1 3;" + " ".repeat(611));
            return x;
        };
        twins.stayAlike("feed refused", full,
                x -> edges.same("feed", x.feed(0x3f3f3f3f, 0x3f3f3f3f, 0x3f3f3f3f, 0x3f3f3f3f, 0x3f3f3f3f), -1));
        Supplier<BreakSetter> cut = () -> {
            BreakSetter x = full.get();
            x.end(10);
            return x;
        };
        twins.stayAlike("feed refused, then cut", cut, x -> {
            x.feed(0x3f3f3f3f, 0x3f3f3f3f, 0x3f3f3f3f, 0x3f3f3f3f, 0x3f3f3f3f);
            x.end(10);
        });
    }

    private void refusedQuestions() {
        edges.says("Terms", "A refused call, one that throws changes nothing.");
        stays("questions about no such ones", x -> {
            for (int far : new int[] {-2, 48, Integer.MIN_VALUE, Integer.MAX_VALUE}) {
                edges.same("now", x.now(far), -1);
                edges.same("slot", x.slot(far, 0, 0), -1);
                edges.same("slot", x.slot(0, far, 0), -1);
                edges.same("slot", x.slot(0, 0, far), -1);
                edges.same("why", x.why(far, 0), -1);
                edges.same("why", x.why(0, far), -1);
                edges.same("would", x.would(far, 0), -1);
                edges.same("would", x.would(0, far), -1);
                edges.same("best", x.best(far), -1);
                edges.same("least", x.least(far), -1);
                edges.same("relief", x.relief(far, 0), -1);
                edges.same("relief", x.relief(0, far), -1);
            }
            edges.same("would(1, 5), it may not be there", x.would(1, 5), -1);
            edges.same("least(0), its SHIFTS are not so", x.least(0), -1);
        });
    }

    private static boolean throwsNoSuchElement(Runnable call) {
        try {
            call.run();
            return false;
        } catch (NoSuchElementException e) {
            return e.getClass() == NoSuchElementException.class;
        }
    }

    private void throwingCalls() {
        edges.says("Terms", "one that throws changes nothing.");
        stays("calls that throw", x -> {
            for (int far : new int[] {-1, 5, 8, 24, Integer.MIN_VALUE, Integer.MAX_VALUE}) {
                edges.isTrue("shift(" + far + ", 0) throws", throwsNoSuchElement(() -> x.shift(far, 0)));
                edges.isTrue("shift(0, " + far + ") throws", throwsNoSuchElement(() -> x.shift(0, far)));
                edges.isTrue("pause(" + far + ", 0) throws", throwsNoSuchElement(() -> x.pause(far, 0)));
                edges.isTrue("pause(0, " + far + ") throws", throwsNoSuchElement(() -> x.pause(0, far)));
            }
        });
        twins.stayAlike("calls that throw, of a new object", BreakSetter::new, x -> {
            edges.isTrue("shift(0, 0) throws", throwsNoSuchElement(() -> x.shift(0, 0)));
            edges.isTrue("pause(0, 4) throws", throwsNoSuchElement(() -> x.pause(0, 4)));
        });
    }

    /** No sentence says it, for none promises a change: who only asks changes nothing. */
    private void questions() {
        edges.says("Not promised", "Nothing is promised beyond the answers and state changes described above");
        stays("questions", x -> {
            x.would(0, 2);
            x.would(1, 9);
            x.would(2, 3);
            x.why(0, 3);
            x.best(0);
            x.best(2);
            x.better();
            x.least(1);
            x.relief(0, -1);
            x.relief(1, 47);
            x.worst();
            x.fault();
            x.now(4);
            x.slot(0, 3, 2);
            x.shift(1, 4);
            x.pause(2, 4);
        });
    }
}
