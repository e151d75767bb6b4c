/** Sentences of the Terms about BETTER, LEAST and RELIEF. */
final class BestWayEdges {
    private static final String HEAD = "posts 1 1;";

    private final Edges edges;

    BestWayEdges(Edges edges) {
        this.edges = edges;
    }

    void all() {
        betterOfPlacedOnes();
        betterWhereItMayBe();
        betterOneAlone();
        betterIsLess();
        betterTies();
        leastOfWhom();
        leastByAnyPlaces();
        leastOfAllThese();
        reliefBegins();
        reliefWalks();
        reliefHelps();
        reliefHelpsMost();
        reliefLeastRow();
    }

    private void betterOfPlacedOnes() {
        edges.says("Terms", "BETTER: of all ways to put one PAUSE that is PLACED to another SLOT");
        BreakSetter x = Checks.told(HEAD + "need 0 0 3 1;shift 0 0 9 pause 1 0 9;shift 0 5 9 pause 1 5 9;");
        edges.same("nothing is PLACED", x.better(), -2);
        x.place(1, 6);
        edges.same("the one that is PLACED does no harm", x.better(), -2);
        x.place(0, 0);
        edges.same("the one that is PLACED does harm", x.better(), 4);
        x.take(0);
        edges.same("it is nowhere again", x.better(), -2);
        BreakSetter one = Checks.told(HEAD + "need 0 4 4 1;shift 0 0 9 pause 1 4 4;");
        one.place(0, 4);
        edges.same("there is no other SLOT", one.better(), -2);
        edges.same("of a new object", new BreakSetter().better(), -2);
    }

    private void betterWhereItMayBe() {
        edges.says("Terms", "to another SLOT where it may be");
        BreakSetter x = Checks.told(HEAD + "need 0 3 6 1;shift 0 0 9 pause 1 3 6 pause 1 0 9;");
        x.place(0, 3);
        edges.same("its window ends too soon", x.better(), -2);
        BreakSetter y = Checks.told(HEAD + "need 0 3 6 1;shift 0 0 9 pause 1 2 7 pause 1 0 9;");
        y.place(0, 4);
        edges.same("EARLY", y.better(), 2);
        y.place(1, 1);
        edges.same("LATE: EARLY is next to another one", y.better(), 7);
        y.place(0, 5);
        y.place(1, 3);
        edges.same("the least PAUSE, at LATE", y.better(), 7);
        y.place(1, 8);
        edges.same("LATE is next to another one", y.better(), 2);
    }

    /** Both would have to move; one alone gains nothing. */
    private void betterOneAlone() {
        edges.says("Terms", "put one PAUSE");
        BreakSetter x = Checks.told(HEAD + "need 0 4 5 1;shift 0 0 9 pause 1 2 5 pause 1 3 8;");
        x.place(1, 3);
        x.place(0, 5);
        edges.same("SHORTFALL", x.now(4), 1);
        edges.same("another one stands in the way", x.better(), -2);
        x.place(1, 8);
        edges.same("out of the way", x.better(), 2);
    }

    private void betterIsLess() {
        edges.says("Terms", "the one with the least SHORTFALL, if that is less than now;");
        BreakSetter x = Checks.told(HEAD + "need 0 0 9 1;shift 0 0 9 pause 1 0 9;");
        x.place(0, 5);
        edges.same("all are as much", x.better(), -2);
        BreakSetter y = Checks.told(HEAD + "need 0 2 6 1;shift 0 0 9 pause 3 0 7;");
        y.place(0, 3);
        edges.same("SHORTFALL", y.now(4), 3);
        edges.same("0 to 2 leaves 1, 7 to 9 none", y.better(), 7);
        y.place(0, 0);
        edges.same("from 1 to none", y.better(), 7);
        y.place(0, 7);
        edges.same("none is less than none", y.better(), -2);
        BreakSetter z = Checks.told("posts 2 1;need 0 0 3 1;need 1 0 3 1;"
                + "shift 0 0 9 pause 1 0 9;shift 1 0 9 pause 4 0 6;");
        z.place(0, 0);
        z.place(1, 0);
        edges.same("the second gains more", z.better(), 104);
    }

    private void betterTies() {
        edges.says("Terms", "of like ones the least PAUSE, then the least SLOT.");
        BreakSetter x = Checks.told("posts 2 1;need 0 4 5 1;need 1 4 5 1;"
                + "shift 0 0 9 pause 1 0 9;shift 1 0 9 pause 1 2 9;shift 1 0 3 pause 1 0 3;");
        x.place(0, 5);
        x.place(1, 4);
        edges.same("the least PAUSE, its least SLOT", x.better(), 0);
        x.place(0, 3);
        edges.same("the least SLOT, ahead of where it is", x.better(), 102);
        x.place(1, 5);
        edges.same("the least SLOT, from elsewhere", x.better(), 102);
        BreakSetter y = Checks.told(HEAD + "need 0 0 5 1;shift 0 0 9 pause 1 3 9;");
        y.place(0, 3);
        edges.same("the least SLOT, behind where it is", y.better(), 6);
    }

    private void least(String text, int post, int due) {
        BreakSetter x = Checks.told(text);
        edges.same("least(" + post + ") of " + text, x.least(post), due);
        x.fill();
        edges.same("least(" + post + ") behind fill() of " + text, x.least(post), due);
    }

    private void leastOfWhom() {
        edges.says("Terms", "LEAST of a POST all whose SHIFTS have just one PAUSE, LONG 1:");
        least(HEAD, 0, 0);
        least(HEAD + "need 0 0 47 9;", 0, 432);
        least(HEAD + "shift 0 0 9 pause 1 0 9;", 0, 0);
        least(HEAD + "shift 0 0 9;", 0, -1);
        least(HEAD + "shift 0 0 9 pause 1 0 0 pause 1 5 5;", 0, -1);
        least(HEAD + "shift 0 0 9 pause 1 0 0 pause 1 5 5 pause 1 9 9;", 0, -1);
        least(HEAD + "shift 0 0 9 pause 2 0 0;", 0, -1);
        least(HEAD + "shift 0 0 9 pause 4 0 0;", 0, -1);
        least(HEAD + "shift 0 0 9 pause 1 0 9;".repeat(7) + "shift 0 0 9;", 0, -1);
        least(HEAD + "shift 0 0 9;" + "shift 0 0 9 pause 1 0 9;".repeat(7), 0, -1);
        least("posts 2 1;shift 0 0 9;shift 1 0 9 pause 1 0 9;shift 0 0 9 pause 2 0 8;", 1, 0);
        least("posts 2 1;shift 0 0 9;shift 1 0 9 pause 1 0 9;shift 0 0 9 pause 2 0 8;", 0, -1);
        least("posts 3 1;shift 0 0 9;shift 1 0 9;", 2, 0);
    }

    private void leastByAnyPlaces() {
        edges.says("Terms", "the least SHORT of all its SLOTS by any places");
        String three = "shift 0 0 9 pause 1 3 5;shift 0 0 9 pause 1 3 3;shift 0 0 9 pause 1 3 4;";
        least(HEAD + "need 0 0 9 2;" + three, 0, 0);
        least(HEAD + "need 0 0 9 3;" + three, 0, 3);
        least(HEAD + "need 0 0 9 2;need 0 4 4 1;" + three, 0, 1);
        least(HEAD + "need 0 3 4 3;" + three, 0, 2);
        least(HEAD + "need 0 10 11 1;" + three, 0, 2);
        least(HEAD + "need 0 0 47 3;shift 0 0 47 pause 1 0 0;shift 0 0 47 pause 1 47 47;", 0, 50);
        least(HEAD + "need 0 1 46 2;shift 0 0 47 pause 1 0 0;shift 0 0 47 pause 1 47 47;", 0, 0);
        least(HEAD + "need 0 0 0 8;need 0 9 9 8;" + "shift 0 0 9 pause 1 0 9;".repeat(8), 0, 0);
        least(HEAD + "need 0 0 3 8;need 0 5 9 8;" + "shift 0 0 9 pause 1 0 9;".repeat(8), 0, 0);
        least(HEAD + "need 0 0 3 8;need 0 4 4 5;need 0 5 9 8;" + "shift 0 0 9 pause 1 0 9;".repeat(8), 0, 5);
        least("posts 2 1;need 1 0 9 5;need 0 4 4 1;shift 0 0 9 pause 1 4 5;shift 1 0 9 pause 1 0 9;", 0, 0);
        least("posts 2 1;need 1 0 9 5;need 0 4 4 1;shift 0 0 9 pause 1 4 5;shift 1 0 9 pause 1 0 9;", 1, 41);
        BreakSetter x = Checks.told(HEAD + "need 0 4 4 1;shift 0 0 9 pause 1 4 5;");
        x.place(0, 4);
        edges.same("now", x.now(4), 1);
        edges.same("by any places, not as now", x.least(0), 0);
        edges.places("asked, not PLACED", x, 4);
    }

    private void leastOfAllThese() {
        edges.says("Terms", "by any places of all these.");
        BreakSetter x = Checks.told(HEAD + "need 0 0 9 1;shift 0 0 9 pause 1 0 9;");
        edges.same("nothing is PLACED", x.now(4), 0);
        edges.same("each has to be somewhere", x.least(0), 1);
        least(HEAD + "need 0 0 47 8;" + "shift 0 0 47 pause 1 0 47;".repeat(8), 0, 8);
    }

    private void way(BreakSetter x, int post, int help, String way) {
        StringBuilder got = new StringBuilder();
        for (int slot = 0; slot < 48; slot++) {
            got.append(x.relief(post, slot));
        }
        char last = way.charAt(way.length() - 1);
        edges.same("the way from " + post, got.toString(), way + String.valueOf(last).repeat(48 - way.length()));
        edges.same("the help from " + post, x.relief(post, -1), help);
    }

    private void reliefBegins() {
        edges.says("Terms", "RELIEF: somebody who begins in SLOT 0 at a POST; in each SLOT it is at a POST, or walks:");
        BreakSetter x = Checks.told("posts 3 1;need 0 0 0 1;need 1 0 0 1;");
        way(x, 0, 1, "0");
        way(x, 1, 1, "1");
        way(x, 2, 0, "2");
        way(Checks.told("posts 3 1;need 1 0 2 1;"), 0, 2, "91");
        way(Checks.told("posts 3 4;need 2 0 47 1;"), 0, 44, "99992");
        way(Checks.told("posts 3 4;need 2 0 47 1;"), 2, 48, "2");
        way(new BreakSetter(), 0, 0, "0");
        way(Checks.told(HEAD + "need 0 0 47 1;"), 0, 48, "0");
    }

    private void reliefWalks() {
        edges.says("Terms", "from one to another one takes W SLOTS in which it is nowhere;"
                + " behind these it is at the other one.");
        for (int walk = 1; walk <= 4; walk++) {
            String head = "posts 2 " + walk + ";need 1 ";
            String walks = "9".repeat(walk);
            way(Checks.told(head + walk + " " + walk + " 1;"), 0, 1, walks + "1");
            way(Checks.told(head + (walk - 1) + " " + (walk - 1) + " 1;"), 0, 0, "0");
            way(Checks.told(head + "47 47 1;"), 0, 1, "0".repeat(47 - walk) + walks + "1");
            way(Checks.told(head + "20 20 1;need 0 0 47 1;"), 0, 48, "0");
        }
        String text = ";need 0 0 9 1;need 1 10 12 1;need 0 20 22 1;";
        BreakSetter one = Checks.told("posts 2 1" + text);
        way(one, 0, 15, "0".repeat(10) + "9" + "1".repeat(8) + "90");
        way(one, 1, 14, "9" + "0".repeat(9) + "9" + "1".repeat(8) + "90");
        BreakSetter two = Checks.told("posts 2 2" + text);
        way(two, 0, 14, "0".repeat(10) + "99" + "1".repeat(6) + "990");
        way(two, 1, 12, "99" + "0".repeat(8) + "99" + "1".repeat(6) + "990");
        BreakSetter three = Checks.told("posts 2 3" + text);
        way(three, 0, 13, "0");
        way(three, 1, 10, "9990");
        BreakSetter four = Checks.told("posts 2 4" + text);
        way(four, 0, 13, "0");
        way(four, 1, 9, "99990");
    }

    private void reliefHelps() {
        edges.says("Terms", "It helps in a SLOT, if the POST where it is is SHORT.");
        way(Checks.told("posts 2 1;need 0 5 5 1;need 1 3 4 9;"), 1, 2, "1");
        way(Checks.told("posts 2 1;need 0 5 6 1;need 1 3 3 9;shift 0 5 6;"), 1, 1, "1");
        way(Checks.told("posts 2 1;need 0 5 6 1;need 1 3 3 9;shift 0 5 6;"), 0, 1, "0091");
        BreakSetter x = Checks.told(HEAD + "need 0 3 5 1;shift 0 0 9 pause 2 0 8;");
        way(x, 0, 0, "0");
        x.place(0, 5);
        way(x, 0, 1, "0");
        x.place(0, 3);
        way(x, 0, 2, "0");
        BreakSetter y = Checks.told("posts 2 3;need 0 0 9 1;need 1 0 30 1;");
        way(y, 0, 28, "0".repeat(10) + "9991");
        way(y, 1, 31, "1");
    }

    private void reliefHelpsMost() {
        edges.says("Terms", "Its WAY: by which it helps in most SLOTS;");
        way(Checks.told("posts 2 1;need 0 0 4 1;need 1 6 9 1;need 0 11 12 1;"), 0, 11,
                "00000" + "9" + "1111" + "9" + "0");
        way(Checks.told("posts 3 2;need 0 0 3 1;need 1 4 6 9;need 2 5 9 1;"), 0, 8, "0000" + "99" + "2");
        way(Checks.told("posts 3 1;need 0 0 3 1;need 1 5 6 1;need 2 8 9 1;"), 0, 8, "0000" + "9" + "11" + "9" + "2");
    }

    private void reliefLeastRow() {
        edges.says("Terms", "of like ones the least row of POSTS by SLOTS (9: it walks).");
        BreakSetter nothing = Checks.told("posts 3 1;");
        way(nothing, 2, 0, "2");
        way(nothing, 1, 0, "1");
        way(Checks.told("posts 3 1;need 2 10 10 1;need 1 10 10 1;"), 0, 1, "0".repeat(9) + "91");
        way(Checks.told("posts 3 1;need 2 10 10 1;need 0 10 10 1;"), 1, 1, "1".repeat(9) + "90");
        way(Checks.told("posts 3 1;need 2 10 10 1;need 0 10 10 1;"), 2, 1, "2");
        way(Checks.told("posts 2 1;need 0 0 3 1;need 1 0 4 1;"), 0, 4, "0");
        way(Checks.told("posts 2 1;need 0 0 3 1;need 1 2 5 1;"), 0, 5, "000091");
        way(Checks.told("posts 2 1;need 1 10 10 1;need 0 12 12 1;"), 1, 2, "1".repeat(11) + "90");
        way(Checks.told("posts 3 2;need 1 8 9 1;need 2 8 9 1;need 2 14 14 1;"), 0, 3,
                "000000" + "99" + "1111" + "99" + "2");
        way(Checks.told("posts 3 3;need 1 8 9 1;need 2 8 9 1;need 2 11 11 1;"), 0, 3, "00000" + "999" + "2");
    }
}
