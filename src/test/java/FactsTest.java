/** Promises 7 shift, 8 pause, 9 slot. */
public final class FactsTest {
    private static final Checks CHECKS = new Checks("FactsTest");
    private static final String TEXT = "posts 2 1;need 0 2 4 2;need 0 4 6 3;need 1 47 47 9;"
            + "shift 1 3 47;shift 0 0 9 pause 2 1 8 pause 1 0 9;shift 0 4 4 pause 1 4 4;";

    public static void main(String[] args) {
        shiftFacts();
        pauseFacts();
        slotFacts();
        coverFollowsPauses();
        CHECKS.finish();
    }

    private static void shiftFacts() {
        BreakSetter x = Checks.told(TEXT);
        int[][] due = {{1, 3, 47, 0, -1}, {0, 0, 9, 2, 0}, {0, 4, 4, 1, 2}};
        for (int shift = 0; shift < due.length; shift++) {
            for (int what = 0; what < 5; what++) {
                CHECKS.same("shift(" + shift + ", " + what + ")", x.shift(shift, what), due[shift][what]);
            }
        }
        for (int odd : new int[] {-1, 3, 8, 100, Integer.MIN_VALUE, Integer.MAX_VALUE}) {
            CHECKS.noSuchElement("shift(" + odd + ", 0)", () -> x.shift(odd, 0));
            int what = odd == 3 ? 5 : odd;
            CHECKS.noSuchElement("shift(0, " + what + ")", () -> x.shift(0, what));
            CHECKS.noSuchElement("shift(" + odd + ", " + what + ")", () -> x.shift(odd, what));
        }
        CHECKS.noSuchElement("shift of a new object", () -> new BreakSetter().shift(0, 0));
    }

    private static void pauseFacts() {
        BreakSetter x = Checks.told(TEXT);
        int[][] due = {{1, 2, 1, 8, -1}, {1, 1, 0, 9, -1}, {2, 1, 4, 4, -1}};
        for (int pause = 0; pause < due.length; pause++) {
            for (int what = 0; what < 5; what++) {
                CHECKS.same("pause(" + pause + ", " + what + ")", x.pause(pause, what), due[pause][what]);
            }
        }
        x.place(1, 0);
        CHECKS.same("pause placed at 0", x.pause(1, 4), 0);
        CHECKS.same("the other one", x.pause(0, 4), -1);
        for (int odd : new int[] {-1, 3, 24, 100, Integer.MIN_VALUE, Integer.MAX_VALUE}) {
            CHECKS.noSuchElement("pause(" + odd + ", 0)", () -> x.pause(odd, 0));
            int what = odd == 3 ? 5 : odd;
            CHECKS.noSuchElement("pause(0, " + what + ")", () -> x.pause(0, what));
        }
        CHECKS.noSuchElement("pause of a new object", () -> new BreakSetter().pause(0, 4));
    }

    private static void slotFacts() {
        BreakSetter x = Checks.told(TEXT);
        int[] need = {0, 0, 2, 2, 5, 3, 3, 0};
        int[] cover = {1, 1, 1, 1, 2, 1, 1, 1};
        for (int slot = 0; slot < need.length; slot++) {
            CHECKS.same("need in " + slot, x.slot(0, slot, 0), need[slot]);
            CHECKS.same("cover in " + slot, x.slot(0, slot, 1), cover[slot]);
            CHECKS.same("short in " + slot, x.slot(0, slot, 2), Math.max(0, need[slot] - cover[slot]));
        }
        CHECKS.same("cover ends", x.slot(0, 10, 1), 0);
        CHECKS.same("cover ahead of FROM", x.slot(1, 2, 1), 0);
        CHECKS.same("cover at FROM", x.slot(1, 3, 1), 1);
        CHECKS.same("need in 47", x.slot(1, 47, 0), 9);
        CHECKS.same("short in 47", x.slot(1, 47, 2), 8);
        CHECKS.same("shortfall", x.now(4), 1 + 1 + 3 + 2 + 2 + 8);
        for (int odd : new int[] {-1, 48, Integer.MIN_VALUE, Integer.MAX_VALUE}) {
            CHECKS.same("slot(" + odd + ", 0, 0)", x.slot(odd, 0, 0), -1);
            CHECKS.same("slot(0, " + odd + ", 0)", x.slot(0, odd, 0), -1);
            CHECKS.same("slot(0, 0, " + odd + ")", x.slot(0, 0, odd), -1);
        }
        CHECKS.same("no such post", x.slot(2, 0, 0), -1);
        CHECKS.same("another what", x.slot(0, 0, 3), -1);
    }

    private static void coverFollowsPauses() {
        BreakSetter x = Checks.told(TEXT);
        x.place(0, 4);
        int[] due = {1, 1, 1, 1, 1, 0, 1};
        for (int slot = 0; slot < due.length; slot++) {
            CHECKS.same("cover with a pause in " + slot, x.slot(0, slot, 1), due[slot]);
        }
        CHECKS.same("the other post", x.slot(1, 4, 1), 1);
        CHECKS.same("shortfall with a pause", x.now(4), 19);
        x.place(2, 4);
        CHECKS.same("two in a pause", x.slot(0, 4, 1), 0);
        x.take(0);
        CHECKS.same("one is back", x.slot(0, 4, 1), 1);
        CHECKS.same("one is back, next slot", x.slot(0, 5, 1), 1);
    }
}
