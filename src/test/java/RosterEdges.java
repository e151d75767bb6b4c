import java.util.Arrays;

/** Sentences of the Terms about slots, need, cover and pauses. */
final class RosterEdges {
    private static final String HEAD = "posts 1 1;";

    private final Edges edges;

    RosterEdges(Edges edges) {
        this.edges = edges;
    }

    void all() {
        slots();
        need();
        onDuty();
        placedAtItsFirst();
        takesLongSlots();
        neverTouch();
        touchOfThree();
        touchByActs();
        cover();
        shortOfASlot();
        shortfall();
        newText();
    }

    private void slots() {
        edges.says("Terms", "SLOTS 0 to 47 (quarter hours).");
        BreakSetter x = Checks.told("posts 3 1;need 0 0 0 1;need 1 47 47 2;shift 0 0 47 pause 1 0 47;");
        edges.same("slot(0, 0, 0)", x.slot(0, 0, 0), 1);
        edges.same("slot(1, 47, 0)", x.slot(1, 47, 0), 2);
        edges.same("slot(0, 48, 0)", x.slot(0, 48, 0), -1);
        edges.same("slot(1, -1, 0)", x.slot(1, -1, 0), -1);
        edges.same("why(0, 0)", x.why(0, 0), 0);
        edges.same("why(0, 47)", x.why(0, 47), 0);
        edges.same("why(0, 48)", x.why(0, 48), -1);
        edges.same("relief(0, 0)", x.relief(0, 0), 0);
        edges.same("relief(0, 47)", x.relief(0, 47), 1);
        edges.same("relief(0, 48)", x.relief(0, 48), -1);
    }

    private void needs(String text, int post, int... due) {
        BreakSetter x = Checks.told(text);
        int[] all = Arrays.copyOf(due, 48);
        for (int slot = 0; slot < 48; slot++) {
            edges.same("NEED of " + post + " in " + slot + " by " + text, x.slot(post, slot, 0), all[slot]);
        }
    }

    private void need() {
        edges.says("Terms", "NEED of a POST in a SLOT: MANY of all its 'need' LINES with that SLOT, together.");
        needs(HEAD, 0);
        needs(HEAD + "need 0 0 0 9;", 0, 9);
        needs(HEAD + "need 0 2 4 0;", 0);
        needs(HEAD + "need 0 2 4 1;need 0 4 6 2;need 0 3 3 5;", 0, 0, 0, 1, 6, 3, 2, 2);
        needs("posts 2 1;need 1 0 2 1;need 0 1 1 4;need 1 2 3 8;", 1, 1, 1, 9, 8);
        needs("posts 2 1;need 1 0 2 1;need 0 1 1 4;need 1 2 3 8;", 0, 0, 4);
        int[] ninety = new int[48];
        Arrays.fill(ninety, 90);
        needs(HEAD + "need 0 0 47 9;".repeat(10), 0, ninety);
        int[] last = new int[48];
        last[47] = 3;
        needs("posts 3 1;need 2 47 47 3;", 2, last);
        needs("posts 3 1;need 1 47 47 3;", 2);
        needs("posts 3 1;need 1 0 0 3;", 0);
    }

    private void duty(int from, int to) {
        BreakSetter x = Checks.told("posts 3 1;shift 1 " + from + " " + to + ";");
        for (int slot = 0; slot < 48; slot++) {
            String where = from + " to " + to + " in " + slot;
            edges.same("COVER by " + where, x.slot(1, slot, 1), slot >= from && slot <= to ? 1 : 0);
            edges.same("COVER of others by " + where, x.slot(0, slot, 1) + x.slot(2, slot, 1), 0);
        }
    }

    private void onDuty() {
        edges.says("Terms", "A SHIFT is on duty in SLOTS FROM to TO.");
        duty(0, 0);
        duty(0, 47);
        duty(47, 47);
        duty(5, 9);
        duty(46, 47);
    }

    private void placedAtItsFirst() {
        edges.says("Terms", "A PAUSE is PLACED at a SLOT (its first; at first nowhere): EARLY to LATE;");
        BreakSetter x = Checks.told(HEAD + "shift 0 3 20 pause 3 5 18 pause 1 20 20;");
        edges.places("at first", x, -1, -1);
        edges.same("PLACED at first", x.now(3), 0);
        edges.same("ahead of EARLY", x.place(0, 4), 1);
        edges.places("behind a refused call", x, -1, -1);
        edges.same("EARLY", x.place(0, 5), 0);
        edges.places("at EARLY", x, 5, -1);
        edges.same("COVER ahead", x.slot(0, 4, 1), 1);
        edges.same("COVER of its first", x.slot(0, 5, 1), 0);
        edges.same("LATE", x.place(0, 18), 0);
        edges.places("at LATE", x, 18, -1);
        edges.same("COVER of its last", x.slot(0, 20, 1), 0);
        edges.same("behind LATE", x.place(0, 19), 1);
        edges.places("behind another refused call", x, 18, -1);
    }

    private void takesLongSlots() {
        edges.says("Terms", "it takes LONG SLOTS.");
        for (int length = 1; length <= 4; length++) {
            for (int place : new int[] {0, 20, 48 - length}) {
                BreakSetter x = Checks.told(HEAD + "shift 0 0 47 pause " + length + " 0 " + (48 - length) + ";");
                x.place(0, place);
                for (int slot = 0; slot < 48; slot++) {
                    edges.same("COVER in " + slot + ", LONG " + length + " at " + place, x.slot(0, slot, 1),
                            slot >= place && slot < place + length ? 0 : 1);
                }
            }
        }
    }

    private static BreakSetter pair(int first, int second) {
        return Checks.told(HEAD + "shift 0 0 47 pause " + first + " 0 40 pause " + second + " 0 40;");
    }

    private void neverTouch() {
        edges.says("Terms", "Two PAUSES of one SHIFT that are PLACED never share a SLOT"
                + " nor lie in SLOTS next to one another.");
        for (int first = 1; first <= 4; first++) {
            for (int second = 1; second <= 4; second++) {
                BreakSetter x = pair(first, second);
                x.place(0, 20);
                for (int slot = 12; slot <= 28; slot++) {
                    boolean apart = slot + second < 20 || slot > 20 + first;
                    String where = second + " at " + slot + " beside " + first + " at 20";
                    edges.same("why: " + where, x.why(1, slot), apart ? 0 : 2);
                    edges.same("place: " + where, x.place(1, slot), apart ? 0 : 2);
                    edges.places(where, x, 20, apart ? slot : -1);
                    x.take(1);
                }
            }
        }
    }

    private void touchOfThree() {
        edges.says("Terms", "Two PAUSES of one SHIFT that are PLACED");
        BreakSetter x = Checks.told(HEAD + "shift 0 0 20 pause 1 0 20 pause 1 0 20 pause 1 0 20;"
                + "shift 0 0 20 pause 4 0 17;");
        x.place(0, 10);
        x.place(2, 6);
        x.place(3, 7);
        int[] reasons = {0, 0, 0, 0, 0, 2, 2, 2, 0, 2, 2, 2, 0};
        for (int slot = 0; slot < reasons.length; slot++) {
            edges.same("the second between the first and the third, " + slot, x.why(1, slot), reasons[slot]);
        }
        edges.same("between them", x.place(1, 8), 0);
        edges.same("the third beside it", x.why(2, 7), 2);
        edges.same("the third at its own place", x.why(2, 6), 0);
        edges.same("another SHIFT's", x.why(3, 8), 0);
        x.take(0);
        edges.same("one that is nowhere is in nobody's way", x.why(1, 10), 0);
        edges.same("it is where it was taken from", x.place(1, 10), 0);
        edges.same("the first then", x.place(0, 10), 2);
    }

    /** No two of the first three pauses, nor of the next three, touch; their lengths are given. */
    private void apart(String when, BreakSetter x, int... lengths) {
        int[] at = new int[lengths.length];
        for (int pause = 0; pause < at.length; pause++) {
            at[pause] = x.pause(pause, 4);
        }
        for (int one = 0; one < at.length; one++) {
            for (int other = one / 3 * 3; other < one; other++) {
                boolean touch = at[one] >= 0 && at[other] >= 0
                        && at[one] <= at[other] + lengths[other] && at[other] <= at[one] + lengths[one];
                edges.isTrue(when + ": " + one + " and " + other + " in " + Arrays.toString(at), !touch);
            }
        }
    }

    private void touchByActs() {
        edges.says("Terms", "never share a SLOT nor lie in SLOTS next to one another");
        int[] lengths = {4, 3, 2, 2, 2, 1};
        BreakSetter x = Checks.told("posts 2 1;need 0 4 12 2;need 1 0 6 1;"
                + "shift 0 2 14 pause 4 3 9 pause 3 2 12 pause 2 5 13;"
                + "shift 1 0 9 pause 2 1 6 pause 2 1 6 pause 1 0 9;");
        edges.same("fill()", x.fill(), 6);
        apart("behind fill()", x, lengths);
        for (int pause = 0; pause < 6; pause++) {
            for (int slot = 1; slot < 15; slot += 2) {
                x.place(pause, slot);
                apart("behind place()", x, lengths);
            }
        }
        x.settle();
        apart("behind settle()", x, lengths);
        x.undo();
        apart("behind undo()", x, lengths);
    }

    private void cover() {
        edges.says("Terms", "COVER of a POST in a SLOT: its SHIFTS on duty, less those in a PAUSE.");
        BreakSetter full = Checks.told("posts 2 1;" + "shift 0 0 47 pause 1 0 47;".repeat(8));
        for (int pause = 0; pause < 8; pause++) {
            edges.same("COVER", full.slot(0, 47, 1), 8 - pause);
            full.place(pause, 47);
        }
        edges.same("all are in a PAUSE", full.slot(0, 47, 1), 0);
        edges.same("the SLOT ahead", full.slot(0, 46, 1), 8);
        edges.same("the other POST's first", full.slot(1, 0, 1), 0);
        full.take(3);
        edges.same("one is back", full.slot(0, 47, 1), 1);
        edges.same("no SHIFTS", new BreakSetter().slot(0, 0, 1), 0);
    }

    private void shortOfASlot() {
        edges.says("Terms", "SHORT of a POST in a SLOT: NEED less COVER, 0 at least.");
        BreakSetter x = Checks.told(HEAD + "need 0 0 0 3;need 0 1 1 2;need 0 2 2 1;"
                + "shift 0 0 9 pause 1 0 9;shift 0 0 9;");
        int[] due = {1, 0, 0, 0};
        int[] inPause = {2, 1, 0, 0};
        for (int slot = 0; slot < 4; slot++) {
            edges.same("SHORT in " + slot, x.slot(0, slot, 2), due[slot]);
            x.place(0, slot);
            edges.same("SHORT with a PAUSE in " + slot, x.slot(0, slot, 2), inPause[slot]);
        }
        edges.same("most", Checks.told(HEAD + "need 0 0 47 9;".repeat(10)).slot(0, 47, 2), 90);
    }

    private void shortfall() {
        edges.says("Terms", "SHORTFALL: SHORT of all POSTS and SLOTS.");
        edges.same("none", Checks.told(HEAD + "shift 0 0 47;").now(4), 0);
        edges.same("most", Checks.told(HEAD + "need 0 0 47 9;".repeat(10)).now(4), 4320);
        edges.same("most of three", Checks.told("posts 3 1;" + "need 2 0 47 9;".repeat(10)).now(4), 4320);
        edges.same("of all POSTS", Checks.told("posts 3 1;need 0 0 0 1;need 1 47 47 2;need 2 9 10 3;").now(4), 9);
        edges.same("what is too much helps nowhere else",
                Checks.told("posts 2 1;need 0 0 1 1;need 1 0 0 1;shift 0 1 1;shift 0 1 1;shift 0 1 1;").now(4), 2);
        BreakSetter x = Checks.told(HEAD + "need 0 3 4 1;shift 0 0 9 pause 2 0 8;");
        int[] due = {0, 0, 1, 2, 1, 0};
        for (int slot = 0; slot < due.length; slot++) {
            x.place(0, slot);
            edges.same("with a PAUSE at " + slot, x.now(4), due[slot]);
        }
    }

    private void newText() {
        edges.says("Terms", "A new TEXT: nothing is PLACED, nothing can be undone.");
        String text = HEAD + "need 0 0 9 1;shift 0 0 9 pause 2 0 8 pause 1 0 9;";
        BreakSetter x = Checks.told(text);
        x.fill();
        x.place(0, 7);
        x.take(1);
        edges.same("acts ahead", x.now(6), 3);
        edges.same("the same TEXT", Checks.tell(x, text), 3);
        edges.places("behind it", x, -1, -1);
        edges.same("PLACED", x.now(3), 0);
        edges.same("what can be undone", x.now(6), 0);
        edges.same("SHORTFALL", x.now(4), 0);
        edges.same("COVER", x.slot(0, 7, 1), 1);
        edges.same("undo()", x.undo(), -1);
        edges.places("behind a refused undo()", x, -1, -1);
        x.place(1, 4);
        edges.same("an act of the new TEXT", x.now(6), 1);
        edges.same("undone", x.undo(), 0);
        edges.places("behind it", x, -1, -1);
        edges.same("a TEXT of nothing", Checks.tell(x, HEAD), 1);
        int[] due = {1, 0, 0, 0, 0, 1, 0, 0};
        for (int what = 0; what < due.length; what++) {
            edges.same("now(" + what + ")", x.now(what), due[what]);
        }
        edges.same("NEED is gone", x.slot(0, 0, 0), 0);
        edges.same("COVER is gone", x.slot(0, 0, 1), 0);
    }
}
