/** Promises 14 least, 15 relief, 16 worst. */
public final class WaysTest {
    private static final Checks CHECKS = new Checks("WaysTest");
    private static final int[] ODD = {-1, 3, 48, Integer.MIN_VALUE, Integer.MAX_VALUE};

    public static void main(String[] args) {
        leastOfWindows();
        leastRefused();
        leastIsNotNow();
        reliefStays();
        reliefWalksAtOnce();
        reliefLeastRow();
        reliefRefused();
        worstSlot();
        CHECKS.finish();
    }

    private static void leastOfWindows() {
        String shifts = "shift 0 0 9 pause 1 3 5;shift 0 0 9 pause 1 3 3;shift 0 0 9 pause 1 3 4;";
        CHECKS.same("room for all", Checks.told("posts 1 1;need 0 0 9 2;" + shifts).least(0), 0);
        CHECKS.same("room for two", Checks.told("posts 1 1;need 0 0 9 2;need 0 3 3 1;" + shifts).least(0), 1);
        CHECKS.same("room for none", Checks.told("posts 1 1;need 0 0 9 3;" + shifts).least(0), 3);
        CHECKS.same("short already", Checks.told("posts 1 1;need 0 0 9 4;" + shifts).least(0), 13);
        CHECKS.same("short behind", Checks.told("posts 1 1;need 0 9 11 2;" + shifts).least(0), 4);
        CHECKS.same("room for two in one slot", Checks.told("posts 1 1;need 0 0 2 3;need 0 4 9 3;need 0 3 3 1;"
                + shifts).least(0), 1);
        CHECKS.same("no shifts", Checks.told("posts 2 1;need 1 0 9 3;" + shifts).least(1), 30);
        CHECKS.same("the other post", Checks.told("posts 2 1;need 1 0 9 3;" + shifts).least(0), 0);
    }

    private static void leastRefused() {
        BreakSetter x = Checks.told("posts 3 1;shift 0 0 9;shift 1 0 9 pause 2 0 0;"
                + "shift 2 0 9 pause 1 0 0;shift 2 0 9 pause 1 0 0 pause 1 5 5;");
        for (int post = -1; post <= 3; post++) {
            CHECKS.same("least(" + post + ")", x.least(post), -1);
        }
        for (int odd : ODD) {
            CHECKS.same("least(" + odd + ")", x.least(odd), -1);
        }
        CHECKS.same("a post less", Checks.told("posts 2 1;shift 0 0 9;").least(1), 0);
    }

    private static void leastIsNotNow() {
        BreakSetter x = Checks.told("posts 1 1;need 0 3 3 1;shift 0 0 9 pause 1 3 4;");
        x.place(0, 3);
        CHECKS.same("now", x.now(4), 1);
        CHECKS.same("least", x.least(0), 0);
        CHECKS.same("it changes nothing", x.pause(0, 4), 3);
    }

    private static void way(BreakSetter x, int post, String due) {
        for (int slot = 0; slot < due.length(); slot++) {
            CHECKS.same("relief(" + post + ", " + slot + ")", x.relief(post, slot), due.charAt(slot) - '0');
        }
    }

    private static void reliefStays() {
        BreakSetter x = Checks.told("posts 2 4;need 0 3 5 1;need 1 4 6 1;");
        CHECKS.same("help at 0", x.relief(0, -1), 3);
        CHECKS.same("help at 1", x.relief(1, -1), 3);
        way(x, 0, "0".repeat(48));
        way(x, 1, "1".repeat(48));
    }

    private static void reliefWalksAtOnce() {
        BreakSetter x = Checks.told("posts 2 2;need 1 0 3 1;");
        CHECKS.same("it walks in slot 0", x.relief(0, -1), 2);
        way(x, 0, "99" + "1".repeat(46));
        CHECKS.same("to the last slot", Checks.told("posts 2 1;need 1 47 47 1;").relief(0, -1), 1);
        way(Checks.told("posts 2 1;need 1 47 47 1;"), 0, "0".repeat(46) + "91");
        way(Checks.told("posts 2 4;need 1 47 47 1;"), 0, "0".repeat(43) + "99991");
        way(Checks.told("posts 2 1;need 1 0 0 1;"), 0, "0".repeat(48));
    }

    private static void reliefLeastRow() {
        BreakSetter x = Checks.told("posts 3 2;need 1 10 12 1;need 2 10 12 2;need 0 20 20 1;");
        CHECKS.same("help", x.relief(0, -1), 4);
        way(x, 0, "00000000" + "99" + "11111111" + "99" + "0".repeat(28));
        way(x, 2, "2".repeat(18) + "99" + "0".repeat(28));
        BreakSetter y = Checks.told("posts 3 3;need 0 0 2 1;need 1 6 9 1;need 2 6 9 1;need 1 15 15 1;");
        CHECKS.same("help", y.relief(0, -1), 8);
        way(y, 0, "000" + "999" + "1".repeat(42));
        CHECKS.same("help at 2", y.relief(2, -1), 5);
        way(y, 2, "2".repeat(12) + "999" + "1".repeat(33));
    }

    private static void reliefRefused() {
        BreakSetter x = Checks.told("posts 3 1;need 0 0 9 1;");
        for (int odd : ODD) {
            CHECKS.same("relief(" + odd + ", 0)", x.relief(odd, 0), -1);
            CHECKS.same("relief(" + odd + ", -1)", x.relief(odd, -1), -1);
        }
        CHECKS.same("relief(0, -2)", x.relief(0, -2), -1);
        CHECKS.same("relief(0, 48)", x.relief(0, 48), -1);
        CHECKS.same("relief(0, 47)", x.relief(0, 47), 0);
        CHECKS.same("relief(0, -1)", x.relief(0, -1), 10);
        CHECKS.same("it covers nothing", x.now(4), 10);
    }

    private static void worstSlot() {
        CHECKS.same("none", Checks.told("posts 1 1;shift 0 0 9;").worst(), -1);
        CHECKS.same("together", Checks.told("posts 3 1;need 0 5 5 5;need 1 9 10 3;need 2 9 10 3;").worst(), 9);
        CHECKS.same("the first", Checks.told("posts 2 1;need 0 5 5 5;need 1 9 9 5;").worst(), 5);
        CHECKS.same("cover does not help others",
                Checks.told("posts 2 1;need 0 47 47 1;shift 1 0 47;").worst(), 47);
        BreakSetter x = Checks.told("posts 1 1;need 0 3 8 1;shift 0 0 9 pause 2 0 8;");
        CHECKS.same("not yet", x.worst(), -1);
        x.place(0, 5);
        CHECKS.same("now", x.worst(), 5);
    }
}
