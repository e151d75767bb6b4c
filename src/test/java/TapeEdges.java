/** Sentences of promises 1 to 6: a new object, feed, end, text, fault, now. */
final class TapeEdges {
    private static final String HEAD = "posts 1 1;";
    private static final int BLANKS = 0x20202020;

    private final Edges edges;

    TapeEdges(Edges edges) {
        this.edges = edges;
    }

    void all() {
        lastOf512Calls();
        newObject();
        emptyTape();
        twentyBytes();
        highestFirst();
        behindTheTape();
        moreThan640();
        firstBytesAlone();
        notSoMany();
        belowZero();
        emptyThen();
        howManyLines();
        lessThePlace();
        allStays();
        kindOfTheLatest();
        noFault();
        aheadOfAny();
        nowOfEach();
        nowOfAnother();
    }

    private static BreakSetter fed(int bytes) {
        BreakSetter x = new BreakSetter();
        for (int fed = 0; fed < bytes; fed += 20) {
            x.feed(BLANKS, BLANKS, BLANKS, BLANKS, BLANKS);
        }
        x.end(bytes);
        return x;
    }

    private void lastOf512Calls() {
        edges.says("What it is", "An object is used for at most 512 calls after it has been made");
        BreakSetter x = new BreakSetter();
        x.feed(0x706f7374, 0x73203120, 0x313b7368, 0x69667420, 0x30203020);
        x.feed(0x34372070, 0x61757365, 0x20312030, 0x2034373b, BLANKS);
        edges.same("call 3", x.text(), 2);
        for (int call = 4; call <= 510; call++) {
            edges.same("call " + call, x.place(0, call % 48), 0);
        }
        edges.same("call 511", x.undo(), 9);
        edges.same("call 512", x.pause(0, 4), 509 % 48);
    }

    private void newObject() {
        edges.says("Promise 1", "One POST, W 1, nothing else;");
        BreakSetter x = new BreakSetter();
        int[] due = {1, 0, 0, 0, 0, 1, 0};
        for (int what = 0; what < due.length; what++) {
            edges.same("now(" + what + ")", x.now(what), due[what]);
        }
        for (int slot = 0; slot < 48; slot++) {
            for (int what = 0; what <= 2; what++) {
                edges.same("slot(0, " + slot + ", " + what + ")", x.slot(0, slot, what), 0);
                edges.same("slot(1, " + slot + ", " + what + ")", x.slot(1, slot, what), -1);
            }
            edges.same("relief(0, " + slot + ")", x.relief(0, slot), 0);
        }
        edges.same("why(0, 0)", x.why(0, 0), -1);
        edges.same("best(0)", x.best(0), -1);
        edges.same("better()", x.better(), -2);
        edges.same("least(0)", x.least(0), 0);
        edges.same("worst()", x.worst(), -1);
        edges.same("undo()", x.undo(), -1);
        edges.same("take(0)", x.take(0), -1);
        edges.same("settle()", x.settle(), -1);
        edges.same("fill()", x.fill(), 0);
    }

    private void emptyTape() {
        edges.says("Promise 1", "an empty tape.");
        edges.same("now(7)", new BreakSetter().now(7), 0);
        edges.isTrue("end(0)", new BreakSetter().end(0));
        edges.isTrue("end(1) is false", !new BreakSetter().end(1));
        edges.same("text()", new BreakSetter().text(), -1);
        edges.same("feed", new BreakSetter().feed(0, 0, 0, 0, 0), 20);
    }

    private void twentyBytes() {
        edges.says("Promise 2", "Twenty bytes come behind the tape, of each number the highest first:"
                + " how many it has;");
        BreakSetter x = new BreakSetter();
        for (int bytes = 20; bytes <= 640; bytes += 20) {
            edges.same("feed", x.feed(-1, Integer.MIN_VALUE, Integer.MAX_VALUE, 0, bytes), bytes);
            edges.same("now(7)", x.now(7), bytes);
        }
    }

    /** A sign that is no TOKEN, in each place of the twenty, is found there. */
    private void highestFirst() {
        edges.says("Promise 2", "of each number the highest first");
        for (int place = 0; place < 20; place++) {
            for (int sign : new int[] {0, 1, 127, 128, 200, 254, 255}) {
                int[] numbers = {BLANKS, BLANKS, BLANKS, BLANKS, BLANKS};
                int up = 24 - place % 4 * 8;
                numbers[place / 4] = numbers[place / 4] & ~(255 << up) | sign << up;
                BreakSetter x = new BreakSetter();
                x.feed(numbers[0], numbers[1], numbers[2], numbers[3], numbers[4]);
                edges.same("sign " + sign + " at " + place, x.text(), -1 - place);
            }
        }
        BreakSetter y = new BreakSetter();
        y.feed(0x706f7374, 0x73203320, 0x343b6e65, 0x65642032, 0x20302030);
        y.feed(0x20393b20, BLANKS, BLANKS, BLANKS, BLANKS);
        edges.same("posts 3 4;need 2 0 0 9;", y.text(), 2);
        edges.same("W", y.now(5), 4);
        edges.same("NEED", y.slot(2, 0, 0), 9);
    }

    private void behindTheTape() {
        edges.says("Promise 2", "come behind the tape");
        for (int kept = 0; kept <= 60; kept++) {
            BreakSetter x = fed(kept);
            edges.same("feed behind " + kept, x.feed(0x3f000000, 0, 0, 0, 0), kept + 20);
            edges.same("the first sign behind " + kept, x.text(), -1 - kept);
        }
    }

    private void moreThan640() {
        edges.says("Promise 2", "NONE, and none come, if it would have more than 640.");
        for (int bytes = 615; bytes <= 640; bytes++) {
            BreakSetter x = fed(bytes);
            edges.same("feed behind " + bytes, x.feed(0, 0, 0, 0, 0), bytes <= 620 ? bytes + 20 : -1);
            edges.same("now(7)", x.now(7), bytes <= 620 ? bytes + 20 : bytes);
        }
        BreakSetter full = fed(640);
        edges.same("full", full.feed(0, 0, 0, 0, 0), -1);
        edges.same("full still", full.feed(0, 0, 0, 0, 0), -1);
        edges.isTrue("room again", full.end(620));
        edges.same("to the last byte", full.feed(BLANKS, BLANKS, BLANKS, BLANKS, BLANKS), 640);
        edges.same("blanks alone: none of the refused ones came", full.text(), -601);
        edges.same("room again behind text()", full.feed(0, 0, 0, 0, 0), 20);
        BreakSetter z = fed(621);
        z.feed(0x3f3f3f3f, 0x3f3f3f3f, 0x3f3f3f3f, 0x3f3f3f3f, 0x3f3f3f3f);
        edges.isTrue("none came: end(622) is false", !z.end(622));
        edges.isTrue("end(10)", z.end(10));
        edges.same("text", z.text(), -11);
    }

    private void firstBytesAlone() {
        edges.says("Promise 3", "The tape has its first n bytes alone: true;");
        int[] due = {-1, -1, -1, -1, -1, -6, -7, -8, -9, -10, 1, -11, -11, -11, -11, -11, -11, -11, -11, -11, -11};
        for (int n = 0; n <= 20; n++) {
            BreakSetter x = new BreakSetter();
            x.feed(0x706f7374, 0x73203120, 0x313b3f3f, BLANKS, BLANKS);
            edges.isTrue("end(" + n + ")", x.end(n));
            edges.same("now(7)", x.now(7), n);
            edges.isTrue("end(" + n + ") again", x.end(n));
            edges.same("text()", x.text(), due[n]);
        }
        BreakSetter full = fed(640);
        edges.isTrue("end(640) of 640", full.end(640));
        edges.isTrue("end(0) of 640", full.end(0));
        edges.same("nothing is left", full.now(7), 0);
    }

    private void notSoMany() {
        edges.says("Promise 3", "false, if it has not so many");
        edges.isTrue("end(1) of none", !new BreakSetter().end(1));
        for (int bytes : new int[] {0, 1, 19, 20, 599, 639, 640}) {
            for (int n : new int[] {bytes + 1, bytes + 2, 641, 65536 + bytes, Integer.MAX_VALUE}) {
                BreakSetter x = fed(bytes);
                edges.isTrue("end(" + n + ") of " + bytes, !x.end(n));
                edges.same("now(7)", x.now(7), bytes);
            }
        }
        BreakSetter cut = fed(40);
        cut.end(30);
        edges.isTrue("what was cut does not come back", !cut.end(31));
        edges.same("now(7)", cut.now(7), 30);
    }

    private void belowZero() {
        edges.says("Promise 3", "or n is below 0.");
        for (int n : new int[] {-1, -2, -20, -640, Integer.MIN_VALUE, Integer.MIN_VALUE + 20}) {
            BreakSetter x = fed(20);
            edges.isTrue("end(" + n + ")", !x.end(n));
            edges.same("now(7)", x.now(7), 20);
            edges.isTrue("end(" + n + ") of none", !new BreakSetter().end(n));
        }
    }

    private void emptyThen() {
        edges.says("Promise 4", "The tape (empty then, even with a FAULT) is a TEXT:");
        BreakSetter x = Checks.told(HEAD);
        edges.same("tape behind a TEXT", x.now(7), 0);
        edges.same("text() of an empty tape", x.text(), -1);
        for (String faulty : new String[] {"?", "posts 4 1;", HEAD + "need 0 0 0 1;".repeat(11), " ".repeat(640)}) {
            edges.isTrue("a FAULT", Checks.tell(x, faulty) < 0);
            edges.same("tape behind a FAULT", x.now(7), 0);
            edges.isTrue("end(1) is false", !x.end(1));
            edges.same("text() again", x.text(), -1);
            edges.same("fault()", x.fault(), 1);
            edges.same("the next TEXT begins at 0", Checks.tell(x, HEAD), 1);
        }
    }

    private void howManyLines() {
        edges.says("Promise 4", "how many LINES;");
        edges.same("the fewest", Checks.tell(new BreakSetter(), HEAD), 1);
        edges.same("LINES end with a sign, not with a blank", Checks.tell(new BreakSetter(), "\nposts\n1\n1\n;\n"), 1);
        edges.same("with needs", Checks.tell(new BreakSetter(), HEAD + "need 0 0 0 1;".repeat(10)), 11);
        edges.same("with shifts", Checks.tell(new BreakSetter(), HEAD + "shift 0 0 0 pause 1 0 0;".repeat(8)), 9);
        edges.same("the most", Checks.tell(new BreakSetter(), HEAD + "need 0 0 0 1;".repeat(10)
                + "shift 0 0 0;".repeat(8)), 19);
    }

    private void lessThePlace() {
        edges.says("Promise 4", "-1 less the place of a FAULT");
        edges.same("at 0", Checks.tell(new BreakSetter(), "?"), -1);
        edges.same("an empty tape", new BreakSetter().text(), -1);
        edges.same("at 599", Checks.tell(new BreakSetter(), HEAD + " ".repeat(589) + "?"), -600);
        edges.same("at 600", Checks.tell(new BreakSetter(), HEAD + " ".repeat(590) + "?"), -601);
    }

    /** A text with its fault at the end; the object had one of the same kind before, for fault() tells the latest. */
    private void allStays() {
        edges.says("Promise 4", "-1 less the place of a FAULT: all stays.");
        String[] before = {"?", "posts 0", HEAD + "need 0 0 0 1;".repeat(11)};
        String[] faulty = {"posts 3 4;need 2 0 47 9;shift 2 0 47 pause 4 1 9 pause 1 30 47;?",
            "posts 3 4;need 2 0 47 9;shift 2 0 47 pause 4 1 9 pause 1 30 47;shift 0 9 8;",
            "posts 3 4;" + "need 2 0 47 9;".repeat(10) + "shift 2 0 47" + " pause 4 1 9".repeat(4) + ";"};
        for (int kind = 0; kind < 3; kind++) {
            String first = before[kind];
            String second = faulty[kind];
            new Twins(edges).stayAlike(second, () -> Twins.busyBehind(first), x -> Checks.tell(x, second));
        }
    }

    private void kindOfTheLatest() {
        edges.says("Promise 5", "The kind of the FAULT of the latest text();");
        BreakSetter x = new BreakSetter();
        for (int round = 0; round < 2; round++) {
            Checks.tell(x, "?");
            edges.same("kind 1", x.fault(), 1);
            Checks.tell(x, "posts 0 1;");
            edges.same("kind 2", x.fault(), 2);
            Checks.tell(x, HEAD + "shift 0 0 0;".repeat(9));
            edges.same("kind 3", x.fault(), 3);
        }
        Checks.feed(x, HEAD);
        x.end(10);
        x.place(0, 0);
        x.undo();
        edges.same("only text() changes it", x.fault(), 3);
        x.text();
        edges.same("a TEXT", x.fault(), 0);
        x.text();
        edges.same("an empty tape", x.fault(), 1);
    }

    private void noFault() {
        edges.says("Promise 5", "0 without one");
        BreakSetter x = Checks.told(HEAD);
        edges.same("behind a TEXT", x.fault(), 0);
        Checks.tell(x, "?");
        Checks.tell(x, HEAD + "shift 0 0 0;");
        edges.same("behind a TEXT again", x.fault(), 0);
    }

    private void aheadOfAny() {
        edges.says("Promise 5", "and ahead of any.");
        BreakSetter x = new BreakSetter();
        edges.same("a new object", x.fault(), 0);
        Checks.feed(x, "?");
        edges.same("fed", x.fault(), 0);
        x.end(5);
        edges.same("end() refused", x.fault(), 0);
    }

    private void nowOfEach() {
        edges.says("Promise 6", "0 POSTS, 1 SHIFTS, 2 PAUSES, 3 those PLACED, 4 SHORTFALL, 5 W, 6 what can be undone,"
                + " 7 bytes of the tape.");
        BreakSetter x = Checks.told("posts 3 4;need 2 0 47 9;"
                + ("shift 1 0 47" + " pause 1 0 47".repeat(3) + ";").repeat(8));
        x.fill();
        for (int act = 0; act < 12; act++) {
            x.place(act, 40);
            x.take(act);
        }
        Checks.feed(x, " ".repeat(640));
        int[] due = {3, 8, 24, 12, 432, 4, 10, 640};
        for (int what = 0; what < due.length; what++) {
            edges.same("now(" + what + ")", x.now(what), due[what]);
        }
    }

    private void nowOfAnother() {
        edges.says("Promise 6", "NONE for another what.");
        BreakSetter x = Checks.told(HEAD + "need 0 0 47 9;");
        for (int what : new int[] {-1, 8, 9}) {
            edges.same("now(" + what + ")", x.now(what), -1);
        }
        for (int what : Edges.FAR) {
            edges.same("now(" + what + ")", x.now(what), -1);
        }
    }
}
