/** Promises 13 better, 19 fill, 20 settle, 21 undo. */
public final class ActsTest {
    private static final Checks CHECKS = new Checks("ActsTest");
    private static final String THREE = "posts 1 1;need 0 0 7 2;"
            + "shift 0 0 7 pause 1 2 4;shift 0 0 7 pause 1 2 4;shift 0 0 7 pause 1 2 4;";

    public static void main(String[] args) {
        betterTies();
        betterLooksAtPlacedOnes();
        fillByNumbers();
        fillLeavesWhatFitsNowhere();
        settleAgainAndAgain();
        settleFortyTimes();
        settleRefused();
        undoEachAct();
        undoKeepsTen();
        refusedActsAreNotKept();
        CHECKS.finish();
    }

    private static void betterTies() {
        BreakSetter x = Checks.told(THREE);
        CHECKS.same("nothing is placed", x.better(), -2);
        x.place(1, 4);
        CHECKS.same("no shortfall", x.better(), -2);
        x.place(2, 4);
        CHECKS.same("least pause, least slot", x.better(), 102);
        x.place(0, 3);
        CHECKS.same("only slot 2 helps", x.better(), 102);
        x.place(0, 2);
        CHECKS.same("only slot 3 helps", x.better(), 103);
        CHECKS.same("better changes nothing", x.pause(1, 4), 4);
        BreakSetter y = Checks.told("posts 2 1;need 0 0 0 1;need 1 0 3 1;"
                + "shift 0 0 9 pause 1 0 9;shift 1 0 9 pause 3 0 7;");
        y.place(0, 0);
        y.place(1, 0);
        CHECKS.same("the one that helps most", y.better(), 104);
    }

    private static void betterLooksAtPlacedOnes() {
        BreakSetter x = Checks.told("posts 1 1;need 0 0 9 3;need 0 4 4 1;shift 0 0 9 pause 1 0 9;");
        CHECKS.same("there is shortfall, nothing is placed", x.better(), -2);
        x.place(0, 3);
        CHECKS.same("each slot is as bad", x.better(), -2);
        BreakSetter y = Checks.told("posts 1 1;need 0 5 9 1;shift 0 0 9 pause 2 0 8 pause 1 0 9;");
        y.place(0, 3);
        y.place(1, 6);
        CHECKS.same("slots beside another don't count", y.better(), 100);
        y.place(0, 1);
        CHECKS.same("none is left", y.better(), 104);
        y.place(0, 2);
        CHECKS.same("the least slot beside", y.better(), 100);
    }

    private static void fillByNumbers() {
        BreakSetter x = Checks.told(THREE);
        x.place(1, 2);
        CHECKS.same("fill()", x.fill(), 2);
        CHECKS.same("first", x.pause(0, 4), 3);
        CHECKS.same("second stays", x.pause(1, 4), 2);
        CHECKS.same("third", x.pause(2, 4), 4);
        CHECKS.same("placed ones", x.now(3), 3);
        CHECKS.same("shortfall", x.now(4), 0);
        CHECKS.same("fill() again", x.fill(), 0);
        CHECKS.same("acts", x.now(6), 3);
    }

    private static void fillLeavesWhatFitsNowhere() {
        BreakSetter x = Checks.told("posts 1 1;shift 0 0 9 pause 3 3 3 pause 1 2 6 pause 1 8 8;");
        CHECKS.same("fill()", x.fill(), 2);
        CHECKS.same("in the way", x.pause(0, 4), 3);
        CHECKS.same("nowhere", x.pause(1, 4), -1);
        CHECKS.same("last", x.pause(2, 4), 8);
        CHECKS.same("undo()", x.undo(), 0);
        CHECKS.same("none placed", x.now(3), 0);
    }

    private static void settleAgainAndAgain() {
        BreakSetter x = Checks.told(THREE);
        x.place(0, 3);
        x.place(1, 3);
        x.place(2, 3);
        CHECKS.same("settle()", x.settle(), 2);
        CHECKS.same("first moved", x.pause(0, 4), 2);
        CHECKS.same("second moved", x.pause(1, 4), 4);
        CHECKS.same("third stays", x.pause(2, 4), 3);
        CHECKS.same("shortfall", x.now(4), 0);
        CHECKS.same("one act", x.now(6), 4);
        CHECKS.same("undo()", x.undo(), 3);
        CHECKS.same("first is back", x.pause(0, 4), 3);
        CHECKS.same("shortfall is back", x.now(4), 2);
    }

    /** A long run of moves, found by search: 47 of them help one behind the other. */
    private static void settleFortyTimes() {
        BreakSetter x = Checks.told("posts 2 1;need 1 4 40 2;need 1 39 43 5;need 1 5 10 3;need 0 19 24 5;"
                + "need 0 29 36 5;need 1 19 34 5;need 0 8 12 4;need 0 36 42 5;need 1 0 15 2;"
                + "shift 1 0 47 pause 4 18 40 pause 3 3 12 pause 3 6 44;"
                + "shift 0 0 47 pause 3 22 42 pause 2 2 45 pause 3 15 27;"
                + "shift 1 0 47 pause 4 6 10 pause 2 15 44 pause 2 6 21;"
                + "shift 1 0 47 pause 4 26 42 pause 4 4 44 pause 4 8 30;"
                + "shift 1 0 47 pause 4 5 36 pause 4 17 40 pause 4 26 44;"
                + "shift 1 0 47 pause 3 4 28 pause 3 31 41 pause 4 36 43;"
                + "shift 1 0 47 pause 4 14 31 pause 4 12 39 pause 4 13 44;"
                + "shift 1 0 47 pause 4 5 11 pause 3 6 44 pause 3 2 33;");
        int[] places = {24, 9, 34, 22, 42, 27, 7, 29, 21, 26, 39, 9, 9, 27, 39, 7, 31, 37, 31, 18, 23, 5, 24, 30};
        for (int pause = 0; pause < places.length; pause++) {
            x.place(pause, places[pause]);
        }
        int shortfall = x.now(4);
        CHECKS.same("settle() is cut", x.settle(), 40);
        CHECKS.isTrue("there is a better one still", x.better() != -2);
        CHECKS.same("settle() goes on", x.settle(), 7);
        CHECKS.same("none is left", x.better(), -2);
        x.undo();
        x.undo();
        CHECKS.same("both undone", x.now(4), shortfall);
    }

    private static void settleRefused() {
        BreakSetter x = Checks.told(THREE);
        CHECKS.same("settle() of nothing", x.settle(), -1);
        x.place(0, 3);
        CHECKS.same("settle() without shortfall", x.settle(), -1);
        CHECKS.same("acts", x.now(6), 1);
    }

    private static void undoEachAct() {
        BreakSetter x = Checks.told(THREE);
        CHECKS.same("undo() of nothing", x.undo(), -1);
        x.place(0, 2);
        x.place(0, 4);
        x.take(0);
        x.fill();
        CHECKS.same("undo fill()", x.undo(), 3);
        CHECKS.same("none is placed", x.now(3), 0);
        CHECKS.same("undo take()", x.undo(), 2);
        CHECKS.same("where it was taken", x.pause(0, 4), 4);
        CHECKS.same("cover", x.slot(0, 4, 1), 2);
        CHECKS.same("undo place()", x.undo(), 1);
        CHECKS.same("where it was ahead", x.pause(0, 4), 2);
        CHECKS.same("undo the first", x.undo(), 0);
        CHECKS.same("nowhere", x.pause(0, 4), -1);
        CHECKS.same("nothing more", x.undo(), -1);
        CHECKS.same("fill() of nothing is an act", new BreakSetter().fill(), 0);
    }

    private static void undoKeepsTen() {
        BreakSetter x = Checks.told("posts 1 1;shift 0 0 47 pause 1 0 47;");
        for (int slot = 0; slot < 14; slot++) {
            x.place(0, slot);
            CHECKS.same("acts", x.now(6), Math.min(slot + 1, 10));
        }
        for (int left = 9; left >= 0; left--) {
            CHECKS.same("undo()", x.undo(), left);
            CHECKS.same("where", x.pause(0, 4), left + 3);
        }
        CHECKS.same("undo()", x.undo(), -1);
        CHECKS.same("it stays", x.pause(0, 4), 3);
        x.place(0, 40);
        CHECKS.same("acts anew", x.now(6), 1);
        CHECKS.same("undo()", x.undo(), 0);
        CHECKS.same("where", x.pause(0, 4), 3);
    }

    private static void refusedActsAreNotKept() {
        BreakSetter x = Checks.told(THREE);
        x.place(0, 2);
        x.place(0, 2);
        x.place(0, 9);
        x.place(5, 2);
        x.take(1);
        x.settle();
        CHECKS.same("acts", x.now(6), 1);
        CHECKS.same("undo()", x.undo(), 0);
    }
}
