/** Sentences of promises 13 to 16: better, least, relief, worst. */
final class WayEdges {
    private static final String HEAD = "posts 1 1;";

    private final Edges edges;

    WayEdges(Edges edges) {
        this.edges = edges;
    }

    void all() {
        betterNumber();
        betterNone();
        leastOf();
        leastNone();
        reliefHelp();
        reliefPlace();
        reliefNone();
        worstSlot();
        worstFirst();
        worstNone();
    }

    private void betterNumber() {
        edges.says("Promise 13", "BETTER: the PAUSE times 100 and the SLOT;");
        String shifts = ("shift 0 0 47" + " pause 1 0 47".repeat(3) + ";").repeat(8);
        BreakSetter x = Checks.told(HEAD + "need 0 1 47 8;" + shifts);
        x.place(23, 30);
        edges.same("the last PAUSE to SLOT 0", x.better(), 2300);
        edges.places("asked, not moved", x, row(24, 23, 30));
        x.take(23);
        x.place(0, 30);
        edges.same("the first PAUSE to SLOT 0", x.better(), 0);
        BreakSetter y = Checks.told(HEAD + "need 0 0 46 8;" + shifts);
        y.place(23, 30);
        edges.same("the last PAUSE to SLOT 47", y.better(), 2347);
        edges.same("what can be undone", y.now(6), 1);
    }

    private static int[] row(int many, int pause, int slot) {
        int[] row = new int[many];
        java.util.Arrays.fill(row, -1);
        row[pause] = slot;
        return row;
    }

    private void betterNone() {
        edges.says("Promise 13", "-2: there is none.");
        edges.same("of a new object", new BreakSetter().better(), -2);
        BreakSetter x = Checks.told(HEAD + "need 0 0 9 9;shift 0 0 9 pause 1 0 9;");
        edges.same("nothing is PLACED", x.better(), -2);
        x.place(0, 4);
        edges.same("nothing gains", x.better(), -2);
        edges.places("behind it", x, 4);
        BreakSetter y = Checks.told(HEAD + "shift 0 0 9 pause 1 0 9;");
        y.place(0, 4);
        edges.same("no SHORTFALL", y.better(), -2);
    }

    private void leastOf() {
        edges.says("Promise 14", "LEAST.");
        BreakSetter x = Checks.told("posts 3 1;need 0 0 9 1;need 1 0 9 2;need 2 0 9 3;"
                + "shift 0 0 9 pause 1 0 9;shift 1 0 9 pause 1 0 9;shift 1 0 4 pause 1 0 0;");
        edges.same("least(0)", x.least(0), 1);
        edges.same("least(1)", x.least(1), 7);
        edges.same("least(2)", x.least(2), 30);
        edges.places("asked, not PLACED", x, -1, -1, -1);
        edges.same("what can be undone", x.now(6), 0);
    }

    private void leastNone() {
        edges.says("Promise 14", "NONE: no such POST, its SHIFTS are not so.");
        BreakSetter x = Checks.told("posts 2 1;shift 0 0 9;shift 1 0 9 pause 1 0 9;");
        edges.same("without a PAUSE", x.least(0), -1);
        edges.same("as told", x.least(1), 0);
        edges.same("least(2)", x.least(2), -1);
        edges.same("least(-1)", x.least(-1), -1);
        for (int far : Edges.FAR) {
            edges.same("least(" + far + ")", x.least(far), -1);
        }
        Checks.tell(x, HEAD + "shift 0 0 9 pause 1 0 8 pause 1 0 9;");
        edges.same("two PAUSES", x.least(0), -1);
        edges.same("a POST of the TEXT ahead", x.least(1), -1);
        Checks.tell(x, HEAD + "shift 0 0 9 pause 2 0 8;");
        edges.same("LONG 2", x.least(0), -1);
        edges.same("of a new object, POST 1", new BreakSetter().least(1), -1);
    }

    private void reliefHelp() {
        edges.says("Promise 15", "RELIEF that begins at a POST: how many SLOTS it helps in (slot NONE),");
        BreakSetter x = Checks.told("posts 3 2;need 0 0 47 9;need 2 40 41 1;");
        edges.same("all SLOTS", x.relief(0, BreakSetter.NONE), 48);
        edges.same("but those of its walk", x.relief(1, -1), 46);
        edges.same("but those of its walk, from 2", x.relief(2, -1), 46);
        edges.same("none", Checks.told("posts 3 2;shift 0 0 9;").relief(1, -1), 0);
        edges.same("it is no COVER", x.now(4), 434);
    }

    private void reliefPlace() {
        edges.says("Promise 15", "where it is in a SLOT by its WAY (9: it walks).");
        BreakSetter x = Checks.told("posts 3 2;need 0 0 47 9;need 2 40 41 1;");
        int[] slots = {0, 1, 2, 3, 46, 47};
        int[] fromTwo = {9, 9, 0, 0, 0, 0};
        for (int i = 0; i < slots.length; i++) {
            edges.same("relief(0, " + slots[i] + ")", x.relief(0, slots[i]), 0);
            edges.same("relief(2, " + slots[i] + ")", x.relief(2, slots[i]), fromTwo[i]);
        }
        BreakSetter y = Checks.told("posts 2 4;need 1 47 47 1;");
        int[] late = {42, 43, 44, 45, 46, 47};
        int[] due = {0, 9, 9, 9, 9, 1};
        for (int i = 0; i < late.length; i++) {
            edges.same("relief(0, " + late[i] + ")", y.relief(0, late[i]), due[i]);
        }
        BreakSetter z = Checks.told("posts 2 1;need 0 5 5 1;need 1 9 9 1;shift 0 0 9 pause 1 3 5;");
        edges.same("ahead of place()", z.relief(0, -1), 1);
        z.place(0, 5);
        edges.same("behind place()", z.relief(0, -1), 2);
        edges.same("the WAY behind place()", z.relief(0, 8), 9);
        edges.same("from POST 1 behind place()", z.relief(1, 4), 9);
    }

    private void reliefNone() {
        edges.says("Promise 15", "NONE: no such ones.");
        BreakSetter x = Checks.told("posts 2 1;need 0 0 47 1;need 1 0 47 1;");
        edges.same("relief(2, 0)", x.relief(2, 0), -1);
        edges.same("relief(2, -1)", x.relief(2, -1), -1);
        edges.same("relief(-1, 0)", x.relief(-1, 0), -1);
        edges.same("relief(-1, -1)", x.relief(-1, -1), -1);
        edges.same("relief(0, -2)", x.relief(0, -2), -1);
        edges.same("relief(1, -2)", x.relief(1, -2), -1);
        edges.same("relief(0, 48)", x.relief(0, 48), -1);
        edges.same("relief(0, 47)", x.relief(0, 47), 0);
        for (int far : Edges.FAR) {
            edges.same("relief(" + far + ", 0)", x.relief(far, 0), -1);
            edges.same("relief(" + far + ", -1)", x.relief(far, -1), -1);
            edges.same("relief(0, " + far + ")", x.relief(0, far), -1);
            edges.same("relief(1, " + far + ")", x.relief(1, far), -1);
        }
        Checks.tell(x, HEAD);
        edges.same("a POST of the TEXT ahead", x.relief(1, -1), -1);
    }

    private void worstSlot() {
        edges.says("Promise 16", "The SLOT in which SHORT of all POSTS together is the most;");
        edges.same("together",
                Checks.told("posts 3 1;need 0 5 5 5;need 0 9 9 2;need 1 9 9 2;need 2 9 9 2;").worst(), 9);
        edges.same("SLOT 47", Checks.told("posts 3 1;need 0 0 47 1;need 2 47 47 1;").worst(), 47);
        edges.same("SLOT 0", Checks.told("posts 3 1;need 0 0 47 1;need 2 0 0 1;").worst(), 0);
        edges.same("SHORT, not NEED", Checks.told(HEAD + "need 0 5 5 2;need 0 7 7 1;shift 0 5 5;shift 0 5 5;").worst(),
                7);
        edges.same("too much at one POST helps no other",
                Checks.told("posts 2 1;need 0 3 3 2;need 1 7 7 1;shift 1 3 3;shift 1 3 3;").worst(), 3);
    }

    private void worstFirst() {
        edges.says("Promise 16", "of like ones the first.");
        edges.same("all alike", Checks.told(HEAD + "need 0 0 47 9;").worst(), 0);
        edges.same("two alike", Checks.told("posts 2 1;need 1 30 30 4;need 0 31 31 4;need 0 29 29 3;").worst(), 30);
        edges.same("alike by two POSTS", Checks.told("posts 2 1;need 1 20 20 2;need 0 20 20 2;need 0 31 31 4;").worst(),
                20);
    }

    private void worstNone() {
        edges.says("Promise 16", "NONE: there is no SHORTFALL.");
        edges.same("of a new object", new BreakSetter().worst(), -1);
        BreakSetter x = Checks.told(HEAD + "need 0 0 9 1;shift 0 0 9 pause 1 0 9;");
        edges.same("as many as needed", x.worst(), -1);
        x.place(0, 0);
        edges.same("a PAUSE in SLOT 0", x.worst(), 0);
        x.take(0);
        edges.same("none again", x.worst(), -1);
    }
}
