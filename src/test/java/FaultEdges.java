/** Sentences of the Terms about the faults of a text. */
final class FaultEdges {
    private static final String HEAD = "posts 1 1;";
    private static final String TEN_NEEDS = HEAD + "need 0 0 0 1;".repeat(10);
    private static final String EIGHT_SHIFTS = HEAD + "shift 0 0 9;".repeat(8);
    private static final String THREE_PAUSES = HEAD + "shift 0 0 9 pause 1 0 0 pause 1 0 0 pause 1 0 0";

    private final Edges edges;

    FaultEdges(Edges edges) {
        this.edges = edges;
    }

    void all() {
        firstAlongTheText();
        firstInTheList();
        noTokenOrCannotCome();
        theEnd();
        sixHundred();
        noFaultAhead();
        readWhole();
        wrongNumber();
        oneMore();
    }

    private void firstAlongTheText() {
        edges.says("Terms", "FAULTS, the first along the text");
        String[] lines = {"foo;", "shift 9 0 0;", "need 0 0 0 0;"};
        int[] inLine = {0, 6, 0};
        for (int first = 0; first < 3; first++) {
            for (int second = 0; second < 3; second++) {
                edges.bad(TEN_NEEDS + lines[first] + lines[second], 140 + inLine[first], first + 1);
            }
        }
        edges.bad("posts 4 5;", 6, 2);
        edges.bad("posts 4,", 6, 2);
        edges.bad("posts ,4", 6, 1);
        edges.bad(HEAD + "need 1 48 , ", 15, 2);
        edges.bad(HEAD + "need 0 48 , ", 17, 2);
    }

    private void firstInTheList() {
        edges.says("Terms", "(of one TOKEN the one that stands first in this list)");
        edges.bad("posts 100 1;", 6, 1);
        edges.bad(HEAD + "99", 10, 1);
        edges.bad(TEN_NEEDS + "need1 0 0 0;", 140, 1);
        edges.bad(TEN_NEEDS + "shift 0 0 0;need 0 0 0 0;", 152, 1);
        edges.bad(TEN_NEEDS + "need", 140, 3);
        edges.bad(EIGHT_SHIFTS.substring(0, 105) + " shift 0 0 9;", 106, 1);
        edges.bad(EIGHT_SHIFTS + "shift1", 106, 1);
        edges.bad(EIGHT_SHIFTS + "shift", 106, 3);
        edges.bad(THREE_PAUSES + ";pause 1 0 0;", 58, 1);
        edges.bad(THREE_PAUSES + " pause1", 58, 1);
        edges.bad(THREE_PAUSES + " pause", 58, 3);
    }

    private void noTokenOrCannotCome() {
        edges.says("Terms", "1 no TOKEN, or one that can't come (at it;");
        edges.bad("?", 0, 1);
        edges.bad("posts 1 1;  \n ?", 14, 1);
        edges.bad("posts 1 1;" + (char) 255, 10, 1);
        edges.bad("posts 1 1;" + (char) 128, 10, 1);
        edges.bad("posts 1 1;" + (char) 0, 10, 1);
        edges.bad("posts 1 1;posts 1 1;", 10, 1);
        edges.bad("posts 1 1;  pause 1 0 0;", 12, 1);
        edges.bad("posts 1 1;shift 0 0 9;  need 0 0 0 0;", 24, 1);
        edges.bad("posts -1 1;", 6, 1);
        edges.bad("posts 1 1;need 0 0 0 -1;", 21, 1);
    }

    private void theEnd() {
        edges.says("Terms", "the end: how many bytes there are;");
        edges.bad("", 0, 1);
        edges.bad("\n", 1, 1);
        edges.bad(" ".repeat(600), 600, 1);
        edges.bad("posts 1 1", 9, 1);
        edges.bad("posts 1 1   ", 12, 1);
        edges.bad("posts 1 1" + " ".repeat(590), 599, 1);
        edges.bad("posts 1 1" + " ".repeat(591), 600, 1);
        edges.bad(HEAD + "need", 14, 1);
        edges.bad(HEAD + "need ", 15, 1);
        edges.bad(HEAD + "shift 0 0 9 pause 1 0 0", 33, 1);
    }

    private void sixHundred() {
        edges.says("Terms", "600, if there are more and no FAULT is ahead:");
        for (int bytes = 601; bytes <= 640; bytes++) {
            edges.bad(HEAD + " ".repeat(bytes - 10), 600, 1);
            edges.bad("posts 1 1" + " ".repeat(bytes - 9), 600, 1);
            edges.bad(" ".repeat(bytes), 600, 1);
            edges.bad(HEAD + " ".repeat(bytes - 11) + "?", 600, 1);
            edges.bad(" ".repeat(bytes - 10) + HEAD, 600, 1);
        }
        edges.bad("posts 1 1" + " ".repeat(591) + ";", 600, 1);
        edges.bad(HEAD + " ".repeat(590) + "posts 1 1;", 600, 1);
        edges.bad(HEAD + " ".repeat(590) + "need 9 0 0 0;", 600, 1);
        edges.bad(TEN_NEEDS + " ".repeat(460) + "need 0 0 0 0;", 600, 1);
    }

    private void noFaultAhead() {
        edges.says("Terms", "no FAULT is ahead");
        edges.bad(HEAD + " ".repeat(589) + "?" + " ".repeat(30), 599, 1);
        edges.bad(HEAD + " ".repeat(589) + ";" + " ".repeat(30), 599, 1);
        edges.bad("posts 4 1;" + " ".repeat(600), 6, 2);
        edges.bad("?" + " ".repeat(639), 0, 1);
        edges.bad(TEN_NEEDS + "need 0 0 0 0;" + " ".repeat(480), 140, 3);
        edges.bad(TEN_NEEDS + " ".repeat(459) + "need 0 0 0 0;", 599, 3);
    }

    /** Tokens that lie over byte 600: each would be another one, were it cut there. */
    private void readWhole() {
        edges.says("Terms", "TOKENS that begin ahead of it are read whole)");
        edges.bad(HEAD + " ".repeat(587) + "need 0 0 0 0;", 600, 1);
        edges.bad(HEAD + " ".repeat(586) + "needs 0 0 0 0;", 596, 1);
        edges.bad(HEAD + " ".repeat(586) + "need0 0 0 0;", 596, 1);
        edges.bad(TEN_NEEDS + " ".repeat(457) + "need 0 0 0 0;", 597, 3);
        edges.bad(HEAD + " ".repeat(580) + "need 0 0 50 0;", 599, 2);
        edges.bad(HEAD + " ".repeat(580) + "need 0 0 47 0;", 600, 1);
        edges.bad(HEAD + " ".repeat(579) + "need 0 0 100 0;", 598, 1);
        edges.bad(HEAD + " ".repeat(579) + "need 0 0 10a 0;", 598, 1);
        edges.bad(HEAD + " ".repeat(580) + "need 0 0 " + "1".repeat(41), 599, 1);
        edges.bad("posts 1 1" + " ".repeat(590) + ";" + " ".repeat(5), 600, 1);
        edges.bad(HEAD + "x".repeat(630), 10, 1);
        edges.bad(HEAD + " ".repeat(589) + "x".repeat(41), 599, 1);
    }

    private void wrongNumber() {
        edges.says("Terms", "2 a NUMBER that is not as told (at it);");
        edges.bad("posts 0 1;", 6, 2);
        edges.bad("posts  \n 00 1;", 9, 2);
        edges.bad("posts 1  99;", 9, 2);
        edges.bad(HEAD + "need 0 5 4", 19, 2);
        edges.bad(HEAD + "need 0 0 0 10;", 21, 2);
        edges.bad(HEAD + "shift 0 5 9 pause 2 8 9;", 32, 2);
        edges.bad(HEAD + "shift 0 5 9 pause 2 5 5 pause 2 8 9;", 44, 2);
    }

    private void oneMore() {
        edges.says("Terms", "3 one more 'need', 'shift', 'pause' than told (at its WORD).");
        edges.good(TEN_NEEDS);
        edges.bad(TEN_NEEDS + "\nneed 0 0 0 1;", 141, 3);
        edges.good(EIGHT_SHIFTS);
        edges.bad(EIGHT_SHIFTS + "  shift 0 0 9;", 108, 3);
        edges.good(THREE_PAUSES + ";");
        edges.bad(THREE_PAUSES + "\n\npause 1 0 0;", 59, 3);
        edges.bad(THREE_PAUSES + ";shift 0 0 9" + " pause 1 5 5".repeat(3) + " pause", 106, 3);
        edges.bad(TEN_NEEDS + "need 9 99 100", 140, 3);
    }
}
