import java.util.NoSuchElementException;

/** Sentences of promises 7 to 12: shift, pause, slot, why, would, best. */
final class AskEdges {
    private static final String HEAD = "posts 1 1;";
    private static final String TEXT = "posts 2 1;need 0 2 4 2;need 1 47 47 9;shift 1 3 47;"
            + "shift 0 0 9 pause 2 1 8 pause 1 0 9;shift 0 4 4 pause 1 4 4;shift 1 0 0;";

    private final Edges edges;

    AskEdges(Edges edges) {
        this.edges = edges;
    }

    void all() {
        shiftFacts();
        noPauses();
        noSuchShift();
        pauseFacts();
        pauseNowhere();
        noSuchPause();
        slotFacts();
        noSuchSlot();
        anotherWhatOfSlot();
        whyByWindow();
        whyByOthers();
        whyItMay();
        whyOfNone();
        wouldOf();
        wouldNot();
        bestOf();
        bestOfLikeOnes();
        bestNowhere();
        bestOfNone();
    }

    private static int shiftOrThrown(BreakSetter x, int shift, int what) {
        try {
            return x.shift(shift, what);
        } catch (NoSuchElementException e) {
            return e.getClass() == NoSuchElementException.class ? -1000 : -2000;
        }
    }

    private static int pauseOrThrown(BreakSetter x, int pause, int what) {
        try {
            return x.pause(pause, what);
        } catch (NoSuchElementException e) {
            return e.getClass() == NoSuchElementException.class ? -1000 : -2000;
        }
    }

    private void shiftFacts() {
        edges.says("Promise 7", "Of a SHIFT 0 its POST, 1 FROM, 2 TO, 3 how many PAUSES, 4 the first of these");
        BreakSetter x = Checks.told(TEXT);
        int[][] due = {{1, 3, 47, 0, -1}, {0, 0, 9, 2, 0}, {0, 4, 4, 1, 2}, {1, 0, 0, 0, -1}};
        for (int shift = 0; shift < due.length; shift++) {
            for (int what = 0; what <= 4; what++) {
                edges.same("shift(" + shift + ", " + what + ")", shiftOrThrown(x, shift, what), due[shift][what]);
            }
        }
        BreakSetter full = Checks.told("posts 3 1;" + "shift 2 0 47 pause 1 0 0;".repeat(7)
                + "shift 2 47 47 pause 1 47 47 pause 1 47 47 pause 1 47 47;");
        int[] last = {2, 47, 47, 3, 7};
        for (int what = 0; what <= 4; what++) {
            edges.same("shift(7, " + what + ")", shiftOrThrown(full, 7, what), last[what]);
        }
    }

    private void noPauses() {
        edges.says("Promise 7", "(NONE: none).");
        BreakSetter x = Checks.told(HEAD + "shift 0 0 9;shift 0 0 9 pause 1 0 0;shift 0 0 9;");
        edges.same("none ahead", x.shift(0, 4), -1);
        edges.same("one", x.shift(1, 4), 0);
        edges.same("none behind", x.shift(2, 4), -1);
        Checks.tell(x, HEAD + "shift 0 0 9 pause 1 0 0;shift 0 0 9;");
        edges.same("one in a new TEXT", x.shift(0, 4), 0);
        edges.same("none in a new TEXT", x.shift(1, 4), -1);
        edges.same("how many", x.shift(1, 3), 0);
    }

    private void noSuchShift() {
        edges.says("Promise 7", "NoSuchElementException: no such one, another what.");
        BreakSetter x = Checks.told(TEXT);
        for (int what = 0; what <= 4; what++) {
            edges.same("shift(4, " + what + ")", shiftOrThrown(x, 4, what), -1000);
            edges.same("shift(-1, " + what + ")", shiftOrThrown(x, -1, what), -1000);
            edges.same("shift(8, " + what + ")", shiftOrThrown(x, 8, what), -1000);
            edges.same("of a new object", shiftOrThrown(new BreakSetter(), 0, what), -1000);
        }
        edges.same("shift(0, 5)", shiftOrThrown(x, 0, 5), -1000);
        edges.same("shift(0, -1)", shiftOrThrown(x, 0, -1), -1000);
        for (int far : Edges.FAR) {
            edges.same("shift(" + far + ", 0)", shiftOrThrown(x, far, 0), -1000);
            edges.same("shift(0, " + far + ")", shiftOrThrown(x, 0, far), -1000);
            edges.same("shift(" + far + ", " + far + ")", shiftOrThrown(x, far, far), -1000);
        }
        Checks.tell(x, HEAD + "shift 0 0 0;");
        edges.same("of the TEXT ahead", shiftOrThrown(x, 1, 0), -1000);
        edges.same("of this TEXT", shiftOrThrown(x, 0, 2), 0);
    }

    private void pauseFacts() {
        edges.says("Promise 8", "Of a PAUSE 0 its SHIFT, 1 LONG, 2 EARLY, 3 LATE, 4 the SLOT where it is PLACED");
        BreakSetter x = Checks.told(TEXT);
        x.place(0, 1);
        x.place(1, 9);
        x.place(2, 4);
        int[][] due = {{1, 2, 1, 8, 1}, {1, 1, 0, 9, 9}, {2, 1, 4, 4, 4}};
        for (int pause = 0; pause < due.length; pause++) {
            for (int what = 0; what <= 4; what++) {
                edges.same("pause(" + pause + ", " + what + ")", pauseOrThrown(x, pause, what), due[pause][what]);
            }
        }
        BreakSetter full = Checks.told(HEAD + ("shift 0 0 47" + " pause 1 0 47".repeat(3) + ";").repeat(7)
                + "shift 0 0 47 pause 1 0 47 pause 1 0 47 pause 4 0 44;");
        full.place(23, 44);
        int[] last = {7, 4, 0, 44, 44};
        for (int what = 0; what <= 4; what++) {
            edges.same("pause(23, " + what + ")", pauseOrThrown(full, 23, what), last[what]);
        }
    }

    private void pauseNowhere() {
        edges.says("Promise 8", "(NONE: nowhere).");
        BreakSetter x = Checks.told(TEXT);
        edges.same("at first", x.pause(1, 4), -1);
        x.place(1, 0);
        edges.same("at SLOT 0", x.pause(1, 4), 0);
        x.take(1);
        edges.same("taken", x.pause(1, 4), -1);
        x.undo();
        edges.same("undone", x.pause(1, 4), 0);
        x.undo();
        edges.same("all undone", x.pause(1, 4), -1);
    }

    private void noSuchPause() {
        edges.says("Promise 8", "NoSuchElementException: no such one, another what.");
        BreakSetter x = Checks.told(TEXT);
        for (int what = 0; what <= 4; what++) {
            edges.same("pause(3, " + what + ")", pauseOrThrown(x, 3, what), -1000);
            edges.same("pause(-1, " + what + ")", pauseOrThrown(x, -1, what), -1000);
            edges.same("pause(24, " + what + ")", pauseOrThrown(x, 24, what), -1000);
            edges.same("of a new object", pauseOrThrown(new BreakSetter(), 0, what), -1000);
        }
        edges.same("pause(0, 5)", pauseOrThrown(x, 0, 5), -1000);
        edges.same("pause(0, -1)", pauseOrThrown(x, 0, -1), -1000);
        for (int far : Edges.FAR) {
            edges.same("pause(" + far + ", 0)", pauseOrThrown(x, far, 0), -1000);
            edges.same("pause(0, " + far + ")", pauseOrThrown(x, 0, far), -1000);
            edges.same("pause(" + far + ", " + far + ")", pauseOrThrown(x, far, far), -1000);
        }
        Checks.tell(x, HEAD + "shift 0 0 0 pause 1 0 0;");
        edges.same("of the TEXT ahead", pauseOrThrown(x, 1, 0), -1000);
        edges.same("of this TEXT", pauseOrThrown(x, 0, 1), 1);
    }

    private void slotFacts() {
        edges.says("Promise 9", "NEED (what 0), COVER (1), SHORT (2) of a POST in a SLOT.");
        BreakSetter x = Checks.told(TEXT);
        int[][] due = {{0, 0, 0, 1, 0}, {0, 2, 2, 1, 1}, {0, 4, 2, 2, 0}, {0, 5, 0, 1, 0}, {0, 47, 0, 0, 0},
            {1, 0, 0, 1, 0}, {1, 2, 0, 0, 0}, {1, 46, 0, 1, 0}, {1, 47, 9, 1, 8}};
        for (int[] row : due) {
            for (int what = 0; what <= 2; what++) {
                edges.same("slot(" + row[0] + ", " + row[1] + ", " + what + ")", x.slot(row[0], row[1], what),
                        row[2 + what]);
            }
        }
    }

    private void noSuchSlot() {
        edges.says("Promise 9", "NONE: no such ones");
        BreakSetter x = Checks.told("posts 2 1;need 0 0 47 9;need 1 0 47 9;shift 0 0 47;shift 1 0 47;");
        for (int what = 0; what <= 2; what++) {
            edges.same("no such POST, 2", x.slot(2, 0, what), -1);
            edges.same("no such POST, 3", x.slot(3, 0, what), -1);
            edges.same("no such POST, -1", x.slot(-1, 47, what), -1);
            edges.same("POST -1, which SLOT 48 can't mend", x.slot(-1, 48, what), -1);
            edges.same("no such SLOT, 48 of POST 0", x.slot(0, 48, what), -1);
            edges.same("no such SLOT, -1 of POST 1", x.slot(1, -1, what), -1);
            for (int far : Edges.FAR) {
                edges.same("slot(" + far + ", 0, " + what + ")", x.slot(far, 0, what), -1);
                edges.same("slot(0, " + far + ", " + what + ")", x.slot(0, far, what), -1);
                edges.same("slot(1, " + far + ", " + what + ")", x.slot(1, far, what), -1);
            }
        }
        Checks.tell(x, HEAD);
        edges.same("a POST of the TEXT ahead", x.slot(1, 0, 0), -1);
    }

    private void anotherWhatOfSlot() {
        edges.says("Promise 9", "another what.");
        BreakSetter x = Checks.told(HEAD + "need 0 0 47 9;shift 0 0 47;");
        edges.same("slot(0, 0, 3)", x.slot(0, 0, 3), -1);
        edges.same("slot(0, 0, -1)", x.slot(0, 0, -1), -1);
        for (int far : Edges.FAR) {
            edges.same("slot(0, 0, " + far + ")", x.slot(0, 0, far), -1);
            edges.same("slot(" + far + ", " + far + ", " + far + ")", x.slot(far, far, far), -1);
        }
    }

    private void reasons(BreakSetter x, int pause, String due) {
        StringBuilder got = new StringBuilder();
        for (int slot = 0; slot < 48; slot++) {
            got.append(x.why(pause, slot));
        }
        edges.same("why(" + pause + ", 0 to 47)", got.toString(), due);
    }

    private void whyByWindow() {
        edges.says("Promise 10", "Why a PAUSE may not be at a SLOT (other PAUSES as they are):"
                + " 1 it is not EARLY to LATE,");
        reasons(Checks.told(HEAD + "shift 0 3 20 pause 3 5 18;"), 0, "1".repeat(5) + "0".repeat(14) + "1".repeat(29));
        reasons(Checks.told(HEAD + "shift 0 0 47 pause 1 0 47;"), 0, "0".repeat(48));
        reasons(Checks.told(HEAD + "shift 0 0 47 pause 4 44 44;"), 0, "1".repeat(44) + "0" + "111");
        reasons(Checks.told(HEAD + "shift 0 0 47 pause 4 0 0;"), 0, "0" + "1".repeat(47));
        BreakSetter x = Checks.told(HEAD + "shift 0 0 47 pause 3 10 20 pause 4 18 22;");
        x.place(1, 19);
        reasons(x, 0, "1".repeat(10) + "000000" + "22222" + "1".repeat(27));
    }

    private void whyByOthers() {
        edges.says("Promise 10", "2 another one of its SHIFT has a SLOT of it or lies next to it;");
        BreakSetter x = Checks.told(HEAD + "shift 0 0 47 pause 2 0 46 pause 3 0 45;shift 0 0 47 pause 1 0 47;");
        x.place(1, 0);
        reasons(x, 0, "2222" + "0".repeat(43) + "1");
        reasons(x, 2, "0".repeat(48));
        x.place(1, 45);
        reasons(x, 0, "0".repeat(43) + "2222" + "1");
        x.place(1, 20);
        reasons(x, 0, "0".repeat(18) + "222222" + "0".repeat(23) + "1");
        x.place(0, 30);
        reasons(x, 1, "0".repeat(27) + "222222" + "0".repeat(13) + "11");
    }

    private void whyItMay() {
        edges.says("Promise 10", "0: it may.");
        BreakSetter x = Checks.told(HEAD + "shift 0 0 9 pause 2 0 8 pause 1 0 9;");
        edges.same("nowhere yet", x.why(0, 4), 0);
        x.place(0, 4);
        edges.same("where it is", x.why(0, 4), 0);
        edges.same("over its own last SLOT", x.why(0, 5), 0);
        edges.same("next to itself", x.why(0, 6), 0);
        edges.same("ahead of itself", x.why(0, 2), 0);
        edges.same("the other one, a SLOT between", x.why(1, 2), 0);
        edges.same("the other one, a SLOT between, behind", x.why(1, 7), 0);
        x.take(0);
        edges.same("the other one, when this is nowhere", x.why(1, 4), 0);
    }

    private void whyOfNone() {
        edges.says("Promise 10", "NONE: no such ones (SLOTS 0 to 47).");
        BreakSetter x = Checks.told(HEAD + "shift 0 0 9 pause 1 2 8;");
        edges.same("why(1, 5)", x.why(1, 5), -1);
        edges.same("why(-1, 5)", x.why(-1, 5), -1);
        edges.same("why(0, -1)", x.why(0, -1), -1);
        edges.same("why(0, 0)", x.why(0, 0), 1);
        edges.same("why(0, 47)", x.why(0, 47), 1);
        edges.same("why(0, 48)", x.why(0, 48), -1);
        edges.same("why(1, 48)", x.why(1, 48), -1);
        for (int far : Edges.FAR) {
            edges.same("why(" + far + ", 5)", x.why(far, 5), -1);
            edges.same("why(0, " + far + ")", x.why(0, far), -1);
        }
        edges.same("of a new object", new BreakSetter().why(0, 0), -1);
    }

    private void scores(BreakSetter x, int pause, int first, int... due) {
        for (int i = 0; i < due.length; i++) {
            edges.same("would(" + pause + ", " + (first + i) + ")", x.would(pause, first + i), due[i]);
        }
    }

    private void wouldOf() {
        edges.says("Promise 11", "SHORTFALL, were a PAUSE at a SLOT.");
        BreakSetter x = Checks.told("posts 2 1;need 0 4 6 2;need 1 0 0 1;shift 0 0 9 pause 2 0 8;shift 0 0 9;");
        scores(x, 0, 0, 1, 1, 1, 2, 3, 3, 2, 1, 1);
        x.place(0, 5);
        edges.same("now", x.now(4), 3);
        scores(x, 0, 0, 1, 1, 1, 2, 3, 3, 2, 1, 1);
        BreakSetter y = Checks.told(HEAD + "need 0 0 47 9;shift 0 0 47 pause 4 0 44;shift 0 0 47 pause 4 0 44;");
        y.place(1, 44);
        edges.same("LATE, beside another SHIFT's", y.would(0, 44), 7 * 48 + 8);
        edges.same("EARLY", y.would(0, 0), 7 * 48 + 8);
        BreakSetter z = Checks.told(HEAD + "need 0 3 3 1;shift 0 0 9 pause 1 3 5;shift 0 0 9 pause 1 3 5;");
        scores(z, 0, 3, 0, 0, 0);
        z.place(1, 3);
        scores(z, 0, 3, 1, 0, 0);
        scores(z, 1, 3, 0, 0, 0);
        edges.places("nothing was PLACED by it", z, -1, 3);
    }

    private void wouldNot() {
        edges.says("Promise 11", "NONE: it may not be there, no such ones.");
        BreakSetter x = Checks.told(HEAD + "shift 0 0 20 pause 2 3 9 pause 1 0 20;");
        scores(x, 0, 1, -1, -1, 0);
        scores(x, 0, 8, 0, 0, -1, -1);
        x.place(0, 5);
        scores(x, 1, 2, 0, 0, -1, -1, -1, -1, 0);
        edges.same("where it is", x.would(0, 5), 0);
        edges.same("would(1, 20)", x.would(1, 20), 0);
        edges.same("would(1, 21)", x.would(1, 21), -1);
        edges.same("would(2, 3)", x.would(2, 3), -1);
        edges.same("would(-1, 3)", x.would(-1, 3), -1);
        edges.same("would(0, -1)", x.would(0, -1), -1);
        edges.same("would(0, 48)", x.would(0, 48), -1);
        for (int far : Edges.FAR) {
            edges.same("would(" + far + ", 3)", x.would(far, 3), -1);
            edges.same("would(1, " + far + ")", x.would(1, far), -1);
        }
    }

    private void bestOf() {
        edges.says("Promise 12", "The SLOT at which SHORTFALL is the least, were a PAUSE there;");
        BreakSetter x = Checks.told(HEAD + "need 0 0 8 1;shift 0 0 9 pause 1 0 9 pause 2 0 8;");
        edges.same("LATE", x.best(0), 9);
        edges.same("half of it", x.best(1), 8);
        x.place(0, 9);
        edges.same("where it is", x.best(0), 9);
        edges.same("another one is in the way", x.best(1), 0);
        BreakSetter y = Checks.told(HEAD + "need 0 1 9 1;shift 0 0 9 pause 1 0 9;");
        edges.same("EARLY", y.best(0), 0);
        BreakSetter z = Checks.told(HEAD + "need 0 0 47 9;need 0 0 46 9;shift 0 0 47 pause 1 0 47;");
        edges.same("each is as much: more NEED is no more SHORTFALL", z.best(0), 0);
        BreakSetter one = Checks.told(HEAD + "need 0 4 4 1;shift 0 0 9 pause 1 4 4;");
        edges.same("one SLOT alone", one.best(0), 4);
    }

    private void bestOfLikeOnes() {
        edges.says("Promise 12", "of like ones the least.");
        BreakSetter x = Checks.told(HEAD + "need 0 4 5 1;shift 0 0 9 pause 1 2 9;");
        edges.same("EARLY", x.best(0), 2);
        x.place(0, 7);
        edges.same("EARLY, though where it is is as good", x.best(0), 2);
        BreakSetter y = Checks.told(HEAD + "need 0 0 4 1;shift 0 0 9 pause 1 2 9;");
        edges.same("the first without NEED", y.best(0), 5);
        y.place(0, 9);
        edges.same("the first without NEED, from LATE", y.best(0), 5);
    }

    private void bestNowhere() {
        edges.says("Promise 12", "-2: it may be nowhere.");
        BreakSetter x = Checks.told(HEAD + "shift 0 0 9 pause 3 3 3 pause 1 2 6 pause 1 2 7;");
        edges.same("free", x.best(1), 2);
        x.place(0, 3);
        edges.same("all its SLOTS are taken or next to them", x.best(1), -2);
        edges.same("one is free", x.best(2), 7);
        edges.same("the one in the way", x.best(0), 3);
        x.take(0);
        edges.same("free again", x.best(1), 2);
        BreakSetter y = Checks.told(HEAD + "shift 0 0 9 pause 1 4 4 pause 1 4 4;");
        y.place(1, 4);
        edges.same("the same SLOT", y.best(0), -2);
        edges.same("its own SLOT", y.best(1), 4);
    }

    private void bestOfNone() {
        edges.says("Promise 12", "NONE: no such one.");
        BreakSetter x = Checks.told(HEAD + "shift 0 0 9 pause 1 0 9;");
        edges.same("best(1)", x.best(1), -1);
        edges.same("best(-1)", x.best(-1), -1);
        for (int far : Edges.FAR) {
            edges.same("best(" + far + ")", x.best(far), -1);
        }
        edges.same("of a new object", new BreakSetter().best(0), -1);
    }
}
