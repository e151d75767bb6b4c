/** Promises 1 (a new object), 2 feed, 3 end, 4 text and 5 fault without looking at grammar, 6 now. */
public final class TapeTest {
    private static final Checks CHECKS = new Checks("TapeTest");
    private static final String PLAIN = "posts 2 3;need 1 0 3 2;shift 1 0 9 pause 1 2 4;";

    public static void main(String[] args) {
        newObject();
        feedCounts();
        feedOrder();
        feedIsFull();
        endCuts();
        textEmptiesTheTape();
        faultStaysAndGoes();
        faultyTextChangesNothing();
        newTextBeginsAnew();
        nowTells();
        CHECKS.finish();
    }

    private static void newObject() {
        BreakSetter x = new BreakSetter();
        int[] due = {1, 0, 0, 0, 0, 1, 0, 0};
        for (int what = 0; what < due.length; what++) {
            CHECKS.same("new now(" + what + ")", x.now(what), due[what]);
        }
        CHECKS.same("new fault()", x.fault(), 0);
        CHECKS.same("new undo()", x.undo(), -1);
        CHECKS.same("new worst()", x.worst(), -1);
        CHECKS.same("new least(0)", x.least(0), 0);
        for (int slot = 0; slot < 48; slot++) {
            CHECKS.same("new need", x.slot(0, slot, 0), 0);
            CHECKS.same("new cover", x.slot(0, slot, 1), 0);
            CHECKS.same("new way", x.relief(0, slot), 0);
        }
    }

    private static void feedCounts() {
        BreakSetter x = new BreakSetter();
        CHECKS.same("first feed", x.feed(0, 0, 0, 0, 0), 20);
        CHECKS.same("second feed", x.feed(-1, Integer.MIN_VALUE, Integer.MAX_VALUE, 7, 8), 40);
        CHECKS.same("now(7)", x.now(7), 40);
    }

    /** Of each number the highest byte first: the sign that is no TOKEN is found at each place. */
    private static void feedOrder() {
        for (int place = 0; place < 20; place++) {
            int[] numbers = {0x20202020, 0x20202020, 0x20202020, 0x20202020, 0x20202020};
            int up = 24 - place % 4 * 8;
            numbers[place / 4] = numbers[place / 4] & ~(255 << up) | 200 << up;
            BreakSetter x = new BreakSetter();
            x.feed(numbers[0], numbers[1], numbers[2], numbers[3], numbers[4]);
            CHECKS.same("odd sign at " + place, x.text(), -1 - place);
        }
    }

    private static void feedIsFull() {
        BreakSetter x = new BreakSetter();
        for (int i = 1; i <= 32; i++) {
            CHECKS.same("feed " + i, x.feed(0x20202020, 0x20202020, 0x20202020, 0x20202020, 0x20202020), 20 * i);
        }
        CHECKS.same("feed 33", x.feed(1, 2, 3, 4, 5), -1);
        CHECKS.same("now(7) when full", x.now(7), 640);
        x.end(621);
        CHECKS.same("feed to 641", x.feed(1, 2, 3, 4, 5), -1);
        CHECKS.same("now(7) of 621", x.now(7), 621);
        x.end(620);
        CHECKS.same("feed to 640", x.feed(0, 0, 0, 0, 0), 640);
    }

    private static void endCuts() {
        BreakSetter x = new BreakSetter();
        CHECKS.isTrue("end(0) of none", x.end(0));
        CHECKS.isTrue("end(1) of none is false", !x.end(1));
        x.feed(0x706f7374, 0x73203120, 0x313b4040, 0x40404040, 0x40404040);
        CHECKS.isTrue("end(21) of 20 is false", !x.end(21));
        CHECKS.isTrue("end(-1) is false", !x.end(-1));
        CHECKS.isTrue("end(least int) is false", !x.end(Integer.MIN_VALUE));
        CHECKS.isTrue("end(largest int) is false", !x.end(Integer.MAX_VALUE));
        CHECKS.same("refused end changes nothing", x.now(7), 20);
        CHECKS.isTrue("end(20) of 20", x.end(20));
        CHECKS.isTrue("end(10)", x.end(10));
        CHECKS.same("now(7) behind end(10)", x.now(7), 10);
        CHECKS.isTrue("end(11) of 10 is false", !x.end(11));
        CHECKS.same("text of the first 10", x.text(), 1);
    }

    private static void textEmptiesTheTape() {
        BreakSetter x = new BreakSetter();
        CHECKS.same("text with lines", Checks.tell(x, PLAIN), 3);
        CHECKS.same("tape behind a text", x.now(7), 0);
        CHECKS.same("text with a fault", Checks.tell(x, "posts 9 1;"), -7);
        CHECKS.same("tape behind a fault", x.now(7), 0);
        CHECKS.same("text of nothing", x.text(), -1);
    }

    private static void faultStaysAndGoes() {
        BreakSetter x = new BreakSetter();
        Checks.tell(x, "post 1 1;");
        CHECKS.same("fault 1", x.fault(), 1);
        Checks.feed(x, PLAIN);
        CHECKS.same("fault of the latest text()", x.fault(), 1);
        x.text();
        CHECKS.same("fault behind a good text", x.fault(), 0);
        Checks.tell(x, "posts 1 5;");
        CHECKS.same("fault 2", x.fault(), 2);
    }

    private static void faultyTextChangesNothing() {
        BreakSetter x = Checks.told(PLAIN);
        x.place(0, 2);
        CHECKS.same("a fault at the end", Checks.tell(x, "posts 1 1;need 0 0 47 9;shift 0 0 47 pause 4 0 0"), -49);
        int[] due = {2, 1, 1, 1, 5, 3, 1, 0};
        for (int what = 0; what < due.length; what++) {
            CHECKS.same("now(" + what + ") behind a fault", x.now(what), due[what]);
        }
        CHECKS.same("need behind a fault", x.slot(1, 4, 0), 0);
        CHECKS.same("pause behind a fault", x.pause(0, 4), 2);
        CHECKS.same("LATE behind a fault", x.pause(0, 3), 4);
        CHECKS.same("undo behind a fault", x.undo(), 0);
        CHECKS.same("pause undone", x.pause(0, 4), -1);
    }

    private static void newTextBeginsAnew() {
        BreakSetter x = Checks.told(PLAIN);
        x.place(0, 2);
        CHECKS.same("the same text again", Checks.tell(x, PLAIN), 3);
        CHECKS.same("nothing is placed", x.pause(0, 4), -1);
        CHECKS.same("none placed", x.now(3), 0);
        CHECKS.same("nothing to undo", x.now(6), 0);
        CHECKS.same("undo()", x.undo(), -1);
        CHECKS.same("cover is whole", x.slot(1, 2, 1), 1);
        CHECKS.same("a small text", Checks.tell(x, "posts 1 1;"), 1);
        CHECKS.same("needs are gone", x.now(4), 0);
        CHECKS.same("shifts are gone", x.now(1), 0);
    }

    private static void nowTells() {
        BreakSetter x = Checks.told(PLAIN);
        x.place(0, 3);
        Checks.feed(x, "abc");
        int[] due = {2, 1, 1, 1, 5, 3, 1, 3};
        for (int what = 0; what < due.length; what++) {
            CHECKS.same("now(" + what + ")", x.now(what), due[what]);
        }
        for (int what : new int[] {-1, 8, 9, Integer.MIN_VALUE, Integer.MAX_VALUE}) {
            CHECKS.same("now(" + what + ")", x.now(what), -1);
        }
    }
}
