/** Sentences of promises 17 to 21: place, take, fill, settle, undo. */
final class ActEdges {
    private static final String HEAD = "posts 1 1;";
    private static final String THREE = HEAD + "need 0 0 7 2;" + "shift 0 0 7 pause 1 2 4;".repeat(3);

    private final Edges edges;

    ActEdges(Edges edges) {
        this.edges = edges;
    }

    void all() {
        place();
        placeElsewhere();
        placeWhy();
        placeNone();
        takeIt();
        takeNone();
        fillByNumbers();
        fillNotNowhere();
        fillNothing();
        settleAgain();
        settleFortyTimes();
        settleNone();
        undoLatest();
        undoThatWasDone();
        undoHowManyMore();
        undoTenAtMost();
        undoNone();
    }

    private void place() {
        edges.says("Promise 17", "A PAUSE is PLACED at a SLOT");
        BreakSetter x = Checks.told(HEAD + "need 0 0 47 1;shift 0 0 47 pause 4 0 44;");
        edges.same("EARLY", x.place(0, 0), 0);
        edges.places("at EARLY", x, 0);
        edges.same("PLACED", x.now(3), 1);
        edges.same("SHORTFALL", x.now(4), 4);
        edges.same("LATE", x.place(0, 44), 0);
        edges.places("at LATE", x, 44);
        edges.same("COVER of SLOT 47", x.slot(0, 47, 1), 0);
        edges.same("what can be undone", x.now(6), 2);
    }

    private void placeElsewhere() {
        edges.says("Promise 17", "(it may be PLACED elsewhere): 0.");
        BreakSetter x = Checks.told(HEAD + "need 0 3 9 1;shift 0 0 9 pause 3 0 7;");
        x.place(0, 5);
        edges.same("over itself", x.place(0, 6), 0);
        edges.same("COVER of the SLOT it left", x.slot(0, 5, 1), 1);
        edges.same("COVER of the SLOT it came to", x.slot(0, 8, 1), 0);
        edges.same("next to itself", x.place(0, 3), 0);
        edges.same("far off", x.place(0, 0), 0);
        edges.same("SHORTFALL", x.now(4), 0);
        edges.same("PLACED", x.now(3), 1);
        edges.same("each is an act", x.now(6), 4);
    }

    private void placeWhy() {
        edges.says("Promise 17", "WHY, if it may not be there;");
        BreakSetter x = Checks.told(HEAD + "shift 0 0 20 pause 2 3 9 pause 1 0 20;");
        edges.same("ahead of EARLY", x.place(0, 2), 1);
        edges.same("behind LATE", x.place(0, 10), 1);
        edges.same("SLOT 0", x.place(0, 0), 1);
        edges.same("SLOT 47", x.place(0, 47), 1);
        edges.same("nothing was done", x.now(6), 0);
        x.place(0, 5);
        int[] due = {0, 2, 2, 2, 2, 0};
        for (int i = 0; i < due.length; i++) {
            edges.same("place(1, " + (3 + i) + ")", x.place(1, 3 + i), due[i]);
        }
        edges.places("behind them", x, 5, 8);
        edges.same("what was done", x.now(6), 3);
        edges.same("its own way, next to the other one", x.place(0, 6), 2);
        edges.same("out of the window and next to the other one", x.place(0, 10), 1);
        edges.places("behind refused ones", x, 5, 8);
        edges.same("what was done still", x.now(6), 3);
    }

    private void placeNone() {
        edges.says("Promise 17", "NONE: no such ones, it is there.");
        BreakSetter x = Checks.told(HEAD + "shift 0 0 47 pause 1 0 47;");
        x.place(0, 7);
        edges.same("it is there", x.place(0, 7), -1);
        edges.same("place(1, 7)", x.place(1, 7), -1);
        edges.same("place(-1, 7)", x.place(-1, 7), -1);
        edges.same("place(0, 48)", x.place(0, 48), -1);
        edges.same("place(0, -1)", x.place(0, -1), -1);
        for (int far : Edges.FAR) {
            edges.same("place(" + far + ", 3)", x.place(far, 3), -1);
            edges.same("place(0, " + far + ")", x.place(0, far), -1);
        }
        edges.places("behind refused ones", x, 7);
        edges.same("what was done", x.now(6), 1);
        BreakSetter y = Checks.told(HEAD + "shift 0 0 47 pause 1 0 47;");
        edges.same("SLOT NONE, where one that is nowhere is", y.place(0, -1), -1);
        edges.same("what was done", y.now(6), 0);
    }

    private void takeIt() {
        edges.says("Promise 18", "A PAUSE that is PLACED is nowhere then: where it was.");
        BreakSetter x = Checks.told(HEAD + "need 0 0 47 1;shift 0 0 47 pause 4 0 44 pause 1 0 47;");
        x.place(0, 44);
        x.place(1, 0);
        edges.same("from SLOT 0", x.take(1), 0);
        edges.places("behind it", x, 44, -1);
        edges.same("COVER of SLOT 0", x.slot(0, 0, 1), 1);
        edges.same("from LATE", x.take(0), 44);
        edges.places("behind it", x, -1, -1);
        edges.same("COVER of SLOT 47", x.slot(0, 47, 1), 1);
        edges.same("SHORTFALL", x.now(4), 0);
        edges.same("PLACED", x.now(3), 0);
        edges.same("what can be undone", x.now(6), 4);
    }

    private void takeNone() {
        edges.says("Promise 18", "NONE: no such one, it is nowhere.");
        BreakSetter x = Checks.told(HEAD + "shift 0 0 47 pause 1 0 47 pause 1 0 47;");
        edges.same("at first", x.take(0), -1);
        x.place(1, 9);
        edges.same("the other one", x.take(0), -1);
        x.take(1);
        edges.same("taken already", x.take(1), -1);
        edges.same("take(2)", x.take(2), -1);
        edges.same("take(-1)", x.take(-1), -1);
        for (int far : Edges.FAR) {
            edges.same("take(" + far + ")", x.take(far), -1);
        }
        edges.same("what was done", x.now(6), 2);
    }

    private void fillByNumbers() {
        edges.says("Promise 19", "PAUSES that are nowhere are PLACED one by one by their numbers,"
                + " each as best() tells then");
        BreakSetter x = Checks.told(THREE);
        edges.same("all", x.fill(), 3);
        edges.places("by numbers", x, 2, 3, 4);
        x.undo();
        x.place(0, 4);
        edges.same("those that are nowhere", x.fill(), 2);
        edges.places("one stays", x, 4, 2, 3);
        BreakSetter y = Checks.told(HEAD + "need 0 0 9 1;shift 0 0 9 pause 2 0 8 pause 1 0 9 pause 1 5 9;");
        edges.same("each as it is then", y.fill(), 3);
        edges.places("beside one another", y, 0, 3, 5);
        BreakSetter full = Checks.told(HEAD + ("shift 0 0 47" + " pause 4 0 44".repeat(3) + ";").repeat(8));
        edges.same("the most", full.fill(), 24);
        for (int pause = 0; pause < 24; pause++) {
            edges.same("place of " + pause, full.pause(pause, 4), pause % 3 * 5);
        }
        edges.same("one act", full.now(6), 1);
    }

    private void fillNotNowhere() {
        edges.says("Promise 19", "(not such as may be nowhere): how many.");
        BreakSetter x = Checks.told(HEAD + "shift 0 0 9 pause 3 3 3 pause 1 2 6 pause 1 8 8;");
        edges.same("two of three", x.fill(), 2);
        edges.places("behind it", x, 3, -1, 8);
        edges.same("PLACED", x.now(3), 2);
        edges.same("none more", x.fill(), 0);
        edges.places("as they were", x, 3, -1, 8);
        x.take(0);
        edges.same("both, the first of them first", x.fill(), 1);
        edges.places("behind it", x, 3, -1, 8);
        BreakSetter y = Checks.told(HEAD + "shift 0 0 9 pause 1 2 6 pause 3 3 3;");
        edges.same("by numbers: the last has no place", y.fill(), 1);
        edges.places("behind it", y, 2, -1);
    }

    private void fillNothing() {
        edges.says("Promise 19", "how many.");
        BreakSetter x = new BreakSetter();
        edges.same("no PAUSES", x.fill(), 0);
        BreakSetter y = Checks.told(HEAD + "shift 0 0 9 pause 1 0 9;");
        y.place(0, 5);
        edges.same("none is nowhere", y.fill(), 0);
        edges.places("as they were", y, 5);
    }

    private void settleAgain() {
        edges.says("Promise 20", "BETTER is done, again and again,");
        edges.says("Promise 20", "as long as there is one: how many times.");
        BreakSetter x = Checks.told(THREE);
        for (int pause = 0; pause < 3; pause++) {
            x.place(pause, 3);
        }
        edges.same("better()", x.better(), 2);
        edges.same("twice", x.settle(), 2);
        edges.places("behind it", x, 2, 4, 3);
        edges.same("none is left", x.better(), -2);
        edges.same("SHORTFALL", x.now(4), 0);
        edges.same("one act", x.now(6), 4);
        BreakSetter y = Checks.told(HEAD + "need 0 2 2 1;shift 0 0 9 pause 1 2 3;");
        y.place(0, 2);
        edges.same("once", y.settle(), 1);
        edges.places("behind it", y, 3);
    }

    /** Found by search: 47 ways one behind the other, each better than what was. */
    private void settleFortyTimes() {
        edges.says("Promise 20", "40 times at most,");
        BreakSetter x = Checks.told("posts 2 1;need 1 4 40 2;need 1 39 43 5;need 1 5 10 3;need 0 19 24 5;"
                + "need 0 29 36 5;need 1 19 34 5;need 0 8 12 4;need 0 36 42 5;need 1 0 15 2;"
                + "shift 1 0 47 pause 4 18 40 pause 3 3 12 pause 3 6 44;"
                + "shift 0 0 47 pause 3 22 42 pause 2 2 45 pause 3 15 27;"
                + "shift 1 0 47 pause 4 6 10 pause 2 15 44 pause 2 6 21;"
                + "shift 1 0 47 pause 4 26 42 pause 4 4 44 pause 4 8 30;"
                + "shift 1 0 47 pause 4 5 36 pause 4 17 40 pause 4 26 44;"
                + "shift 1 0 47 pause 3 4 28 pause 3 31 41 pause 4 36 43;"
                + "shift 1 0 47 pause 4 14 31 pause 4 12 39 pause 4 13 44;"
                + "shift 1 0 47 pause 4 5 11 pause 3 6 44 pause 3 2 33;");
        int[] places = {24, 9, 34, 22, 42, 27, 7, 29, 21, 26, 39, 9, 9, 27, 39, 7, 31, 37, 31, 18, 23, 5, 24, 30};
        for (int pause = 0; pause < places.length; pause++) {
            x.place(pause, places[pause]);
        }
        int before = x.now(4);
        edges.same("cut", x.settle(), 40);
        int cut = x.now(4);
        int[] at = new int[24];
        for (int pause = 0; pause < 24; pause++) {
            at[pause] = x.pause(pause, 4);
        }
        edges.isTrue("there is one still", x.better() != -2);
        edges.same("the rest", x.settle(), 7);
        edges.same("none is left", x.settle(), -1);
        x.undo();
        edges.same("SHORTFALL of the cut", x.now(4), cut);
        edges.places("of the cut", x, at);
        x.undo();
        edges.same("SHORTFALL ahead", x.now(4), before);
        edges.places("ahead", x, places);
        int times = 0;
        for (int better = x.better(); better != -2 && times < 40; better = x.better()) {
            x.place(better / 100, better % 100);
            times++;
        }
        edges.places("by forty single ones", x, at);
    }

    private void settleNone() {
        edges.says("Promise 20", "NONE: there is none.");
        edges.same("of a new object", new BreakSetter().settle(), -1);
        BreakSetter x = Checks.told(THREE);
        edges.same("nothing is PLACED", x.settle(), -1);
        x.place(0, 3);
        edges.same("no SHORTFALL", x.settle(), -1);
        edges.places("behind it", x, 3, -1, -1);
        edges.same("what was done", x.now(6), 1);
        edges.same("undo() goes to the act ahead", x.undo(), 0);
        edges.places("behind undo()", x, -1, -1, -1);
    }

    private void undoLatest() {
        edges.says("Promise 21", "The latest place(), take(), fill(), settle() that was done is undone:");
        BreakSetter x = Checks.told(THREE);
        x.place(0, 3);
        x.place(0, 4);
        x.place(1, 4);
        x.settle();
        edges.places("behind settle()", x, 2, 4, -1);
        x.take(1);
        x.fill();
        edges.places("behind fill()", x, 2, 3, 4);
        edges.same("undo fill()", x.undo(), 5);
        edges.places("fill() undone", x, 2, -1, -1);
        edges.same("SHORTFALL, fill() undone", x.now(4), 0);
        edges.same("undo take()", x.undo(), 4);
        edges.places("take() undone", x, 2, 4, -1);
        edges.same("COVER, take() undone", x.slot(0, 4, 1), 2);
        edges.same("undo settle()", x.undo(), 3);
        edges.places("settle() undone", x, 4, 4, -1);
        edges.same("SHORTFALL, settle() undone", x.now(4), 1);
        edges.same("undo place()", x.undo(), 2);
        edges.places("place() undone", x, 4, -1, -1);
        edges.same("undo place() from elsewhere", x.undo(), 1);
        edges.places("place() from elsewhere undone", x, 3, -1, -1);
        edges.same("undo the first", x.undo(), 0);
        edges.places("all undone", x, -1, -1, -1);
        edges.same("COVER, all undone", x.slot(0, 3, 1), 3);
    }

    private void undoThatWasDone() {
        edges.says("Promise 21", "that was done is undone");
        BreakSetter x = Checks.told(THREE);
        x.place(0, 3);
        x.place(0, 3);
        x.place(0, 9);
        x.place(9, 3);
        x.place(0, 48);
        x.take(1);
        x.take(9);
        x.settle();
        edges.same("refused ones are not kept", x.now(6), 1);
        edges.same("undo()", x.undo(), 0);
        edges.places("undone", x, -1, -1, -1);
        edges.same("fill()", x.fill(), 3);
        edges.same("fill() that finds none", x.fill(), 0);
        edges.same("both were done", x.now(6), 2);
        edges.same("undo the one that found none", x.undo(), 1);
        edges.places("as they were", x, 2, 3, 4);
        edges.same("undo the other", x.undo(), 0);
        edges.places("undone", x, -1, -1, -1);
    }

    private void undoHowManyMore() {
        edges.says("Promise 21", "how many more can be");
        BreakSetter x = Checks.told(HEAD + "shift 0 0 47 pause 1 0 47;");
        for (int act = 0; act < 10; act++) {
            x.place(0, act);
            edges.same("what can be undone", x.now(6), act + 1);
        }
        for (int more = 9; more >= 0; more--) {
            edges.same("undo()", x.undo(), more);
            edges.same("what can be undone", x.now(6), more);
            edges.places("behind undo()", x, more - 1);
        }
    }

    /** The eleventh act pushes out the first; so do many more, undone in between or not. */
    private void undoTenAtMost() {
        edges.says("Promise 21", "(10 at most are kept);");
        for (int acts : new int[] {11, 12, 19, 20, 21, 30, 31, 45}) {
            BreakSetter x = Checks.told(HEAD + "shift 0 0 47 pause 1 0 47;");
            for (int act = 0; act < acts; act++) {
                x.place(0, act);
                edges.same("what can be undone", x.now(6), Math.min(act + 1, 10));
            }
            for (int more = 9; more >= 0; more--) {
                edges.same("undo()", x.undo(), more);
                edges.places("behind undo() of " + acts, x, acts - 11 + more);
            }
            edges.same("no more of " + acts, x.undo(), -1);
            edges.places("no more of " + acts, x, acts - 11);
        }
        BreakSetter y = Checks.told(HEAD + "shift 0 0 47 pause 1 0 47;");
        for (int act = 0; act < 13; act++) {
            y.place(0, act);
        }
        for (int more = 9; more >= 6; more--) {
            edges.same("undo()", y.undo(), more);
        }
        edges.places("four undone", y, 8);
        for (int act = 0; act < 7; act++) {
            y.place(0, 20 + act);
        }
        edges.same("full again", y.now(6), 10);
        int[] back = {25, 24, 23, 22, 21, 20, 8, 7, 6, 5};
        for (int i = 0; i < back.length; i++) {
            edges.same("undo()", y.undo(), 9 - i);
            edges.places("undone", y, back[i]);
        }
        edges.same("no more", y.undo(), -1);
    }

    private void undoNone() {
        edges.says("Promise 21", "NONE: none is.");
        BreakSetter x = new BreakSetter();
        edges.same("of a new object", x.undo(), -1);
        BreakSetter y = Checks.told(THREE);
        edges.same("of a new TEXT", y.undo(), -1);
        y.place(0, 3);
        y.undo();
        edges.same("all are undone", y.undo(), -1);
        edges.same("again", y.undo(), -1);
        edges.same("what can be undone", y.now(6), 0);
        edges.places("behind it", y, -1, -1, -1);
        y.place(1, 2);
        edges.same("an act again", y.now(6), 1);
        edges.same("undone", y.undo(), 0);
    }
}
