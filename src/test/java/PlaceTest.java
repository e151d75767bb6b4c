/** Promises 10 why, 11 would, 12 best, 17 place, 18 take. */
public final class PlaceTest {
    private static final Checks CHECKS = new Checks("PlaceTest");
    private static final int[] ODD = {-1, -2, 48, 99, Integer.MIN_VALUE, Integer.MAX_VALUE};

    public static void main(String[] args) {
        whyByWindow();
        whyByNeighbours();
        wouldScores();
        bestChooses();
        bestOfNowhere();
        placeAnswers();
        takeAnswers();
        oddArguments();
        CHECKS.finish();
    }

    private static void whyByWindow() {
        BreakSetter x = Checks.told("posts 1 1;shift 0 3 20 pause 3 5 18;");
        for (int slot = 0; slot < 48; slot++) {
            CHECKS.same("why(0, " + slot + ")", x.why(0, slot), slot >= 5 && slot <= 18 ? 0 : 1);
        }
        x.place(0, 7);
        CHECKS.same("its own place is no hindrance", x.why(0, 7), 0);
        CHECKS.same("nor is the next to it", x.why(0, 8), 0);
    }

    private static void whyByNeighbours() {
        BreakSetter x = Checks.told("posts 1 1;shift 0 0 30 pause 3 0 28 pause 2 2 29;shift 0 0 30 pause 1 0 30;");
        x.place(0, 10);
        for (int slot = 0; slot < 48; slot++) {
            int due = slot < 2 || slot > 29 ? 1 : slot >= 8 && slot <= 13 ? 2 : 0;
            CHECKS.same("why(1, " + slot + ")", x.why(1, slot), due);
            CHECKS.same("another shift's, " + slot, x.why(2, slot), slot <= 30 ? 0 : 1);
        }
        x.take(0);
        CHECKS.same("free again", x.why(1, 10), 0);
        x.place(1, 10);
        for (int slot = 0; slot <= 28; slot++) {
            CHECKS.same("why(0, " + slot + ")", x.why(0, slot), slot >= 7 && slot <= 12 ? 2 : 0);
        }
    }

    private static void wouldScores() {
        BreakSetter x = Checks.told("posts 2 1;need 0 4 6 2;need 1 0 0 1;"
                + "shift 0 0 9 pause 2 2 8 pause 1 0 9;shift 0 0 9;");
        int[] due = {1, 2, 3, 3, 2, 1, 1};
        for (int slot = 2; slot <= 8; slot++) {
            CHECKS.same("would(0, " + slot + ")", x.would(0, slot), due[slot - 2]);
        }
        CHECKS.same("would outside", x.would(0, 9), -1);
        CHECKS.same("would changes nothing", x.now(4), 1);
        CHECKS.same("would places nothing", x.pause(0, 4), -1);
        x.place(0, 4);
        CHECKS.same("now placed", x.now(4), 3);
        for (int slot = 2; slot <= 8; slot++) {
            CHECKS.same("would of a placed one, " + slot, x.would(0, slot), due[slot - 2]);
        }
        CHECKS.same("would next to another", x.would(1, 6), -1);
        CHECKS.same("would behind another", x.would(1, 7), 3);
        CHECKS.same("would ahead of another", x.would(1, 2), 3);
    }

    private static void bestChooses() {
        BreakSetter x = Checks.told("posts 1 1;need 0 0 4 1;need 0 7 9 1;shift 0 0 12 pause 1 2 12 pause 2 0 8;");
        CHECKS.same("best(0)", x.best(0), 5);
        CHECKS.same("best(1)", x.best(1), 5);
        x.place(0, 5);
        CHECKS.same("best(0) with itself there", x.best(0), 5);
        CHECKS.same("best(1) beside another", x.best(1), 0);
        x.place(0, 6);
        CHECKS.same("the least of like ones", x.best(0), 5);
        CHECKS.same("best changes nothing", x.pause(0, 4), 6);
    }

    private static void bestOfNowhere() {
        BreakSetter x = Checks.told("posts 1 1;shift 0 0 9 pause 3 3 3 pause 1 2 6;");
        x.place(0, 3);
        CHECKS.same("best of a pause that may be nowhere", x.best(1), -2);
        CHECKS.same("why", x.why(1, 2), 2);
        x.take(0);
        CHECKS.same("best of a pause that may be somewhere", x.best(1), 2);
    }

    private static void placeAnswers() {
        BreakSetter x = Checks.told("posts 1 1;shift 0 0 20 pause 2 1 9 pause 1 0 20;");
        CHECKS.same("not EARLY", x.place(0, 0), 1);
        CHECKS.same("not LATE", x.place(0, 10), 1);
        CHECKS.same("refused: nothing to undo", x.now(6), 0);
        CHECKS.same("placed", x.place(0, 9), 0);
        CHECKS.same("it is there", x.place(0, 9), -1);
        CHECKS.same("moved next to itself", x.place(0, 8), 0);
        CHECKS.same("where", x.pause(0, 4), 8);
        CHECKS.same("beside", x.place(1, 10), 2);
        CHECKS.same("behind", x.place(1, 11), 0);
        CHECKS.same("placed ones", x.now(3), 2);
        CHECKS.same("beside itself's neighbour", x.place(0, 9), 2);
        CHECKS.same("refused: it stays", x.pause(0, 4), 8);
        CHECKS.same("acts", x.now(6), 3);
        CHECKS.same("cover", x.slot(0, 8, 1), 0);
        CHECKS.same("cover of the old place", x.slot(0, 10, 1), 1);
    }

    private static void takeAnswers() {
        BreakSetter x = Checks.told("posts 1 1;need 0 0 9 1;shift 0 0 9 pause 2 0 8;");
        CHECKS.same("nowhere", x.take(0), -1);
        x.place(0, 0);
        CHECKS.same("shortfall", x.now(4), 2);
        CHECKS.same("where it was", x.take(0), 0);
        CHECKS.same("nowhere then", x.pause(0, 4), -1);
        CHECKS.same("shortfall then", x.now(4), 0);
        CHECKS.same("again", x.take(0), -1);
        CHECKS.same("acts", x.now(6), 2);
    }

    private static void oddArguments() {
        BreakSetter x = Checks.told("posts 1 1;shift 0 0 47 pause 1 0 47;");
        for (int odd : ODD) {
            CHECKS.same("why(" + odd + ", 0)", x.why(odd, 0), -1);
            CHECKS.same("why(0, " + odd + ")", x.why(0, odd), -1);
            CHECKS.same("would(" + odd + ", 0)", x.would(odd, 0), -1);
            CHECKS.same("would(0, " + odd + ")", x.would(0, odd), -1);
            CHECKS.same("best(" + odd + ")", x.best(odd), -1);
            CHECKS.same("place(" + odd + ", 0)", x.place(odd, 0), -1);
            CHECKS.same("place(0, " + odd + ")", x.place(0, odd), -1);
            CHECKS.same("take(" + odd + ")", x.take(odd), -1);
        }
        CHECKS.same("best(1)", x.best(1), -1);
        CHECKS.same("place(1, 0)", x.place(1, 0), -1);
        CHECKS.same("nothing was done", x.now(6), 0);
    }
}
