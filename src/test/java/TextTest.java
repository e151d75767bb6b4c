/** Promises 4 text and 5 fault: what a TEXT is, and each FAULT with its place. */
public final class TextTest {
    private static final Checks CHECKS = new Checks("TextTest");

    public static void main(String[] args) {
        goodTexts();
        noTokens();
        tokensThatCannotCome();
        endings();
        wrongNumbers();
        tooMany();
        firstInTheList();
        longTexts();
        CHECKS.finish();
    }

    private static void good(String text, int lines) {
        BreakSetter x = new BreakSetter();
        CHECKS.same("text \"" + text + "\"", Checks.tell(x, text), lines);
        CHECKS.same("fault \"" + text + "\"", x.fault(), 0);
    }

    private static void bad(String text, int place, int kind) {
        BreakSetter x = new BreakSetter();
        CHECKS.same("text \"" + text + "\"", Checks.tell(x, text), -1 - place);
        CHECKS.same("fault \"" + text + "\"", x.fault(), kind);
    }

    private static String blanks(int many) {
        return " ".repeat(many);
    }

    private static void goodTexts() {
        good("posts 1 1;", 1);
        good("  posts\n3 \n 4;\n", 1);
        good("posts 03 04;need 02 00 09 09;", 2);
        good("posts 1 1 ; need 0 0 47 0 ; shift 0 47 47 ;", 3);
        good("posts 1 1;shift 0 0 0;", 2);
        good("posts 1 1;shift 0 0 3 pause 4 0 0;", 2);
        good("posts 1 1;shift 0 5 9 pause 1 5 9 pause 2 8 8 pause 4 5 6;", 2);
        good("posts 1 1;" + "need 0 1 2 3;".repeat(10) + "shift 0 1 2;".repeat(8), 19);
        good("posts 1 1;" + "shift 0 0 9 pause 1 0 0 pause 1 0 0 pause 1 0 0;".repeat(8), 9);
    }

    private static void noTokens() {
        bad("posts 1 1;,", 10, 1);
        bad("posts 1\t1;", 7, 1);
        bad("posts 1\r1;", 7, 1);
        bad("posts 1 1;\0", 10, 1);
        bad("posts 1 1;" + (char) 160, 10, 1);
        bad("posts 1 1;" + (char) 255, 10, 1);
        bad("posts 1 1;need 0 0 100 1;", 19, 1);
        bad("posts 001 1;", 6, 1);
        bad("posts 1a 1;", 6, 1);
        bad("posts 1z 1;", 6, 1);
        bad("posts1 1;", 0, 1);
        bad("posts 11;", 6, 2);
        bad("posts 1 1;need0 0 0 1;", 10, 1);
        bad("posts 1 1;need 0 0 0 1shift 0 0 0;", 21, 1);
        bad("Posts 1 1;", 0, 1);
        bad("posts 1 -1;", 8, 1);
        bad("posts 1 1`", 9, 1);
        bad("posts 1 1{", 9, 1);
        bad("posts 1 1/", 9, 1);
        bad("posts 1 1:", 9, 1);
    }

    private static void tokensThatCannotCome() {
        bad("need 0 0 0 1;", 0, 1);
        bad("post 1 1;", 0, 1);
        bad("postss 1 1;", 0, 1);
        bad(";", 0, 1);
        bad("1", 0, 1);
        bad("posts ; 1 1;", 6, 1);
        bad("posts 1 ;", 8, 1);
        bad("posts 1 1 1;", 10, 1);
        bad("posts 1 1 need", 10, 1);
        bad("posts 1 1;;", 10, 1);
        bad("posts 1 1;5", 10, 1);
        bad("posts 1 1;posts 1 1;", 10, 1);
        bad("posts 1 1;pause 1 0 0;", 10, 1);
        bad("posts 1 1;need 0 0 0;", 20, 1);
        bad("posts 1 1;need 0 0 0 1 1;", 23, 1);
        bad("posts 1 1;need 0 0 9 1 pause 1 0 0;", 23, 1);
        bad("posts 1 1;shift 0 0 9;need 0 0 0 1;", 22, 1);
        bad("posts 1 1;shift 0 0 9 9;", 22, 1);
        bad("posts 1 1;shift 0 0 9 need", 22, 1);
        bad("posts 1 1;shift 0 0 9 shift", 22, 1);
        bad("posts 1 1;shift 0 0 ;", 20, 1);
        bad("posts 1 1;shift 0 0 9 pause 1 0;", 31, 1);
        bad("posts 1 1;shift 0 0 9 pause 1 0 0 0;", 34, 1);
        bad("posts 1 1;shift 0 0 9;pause 1 0 0;", 22, 1);
        bad("posts 1 1;shift 0 0 9;5", 22, 1);
    }

    private static void endings() {
        bad("", 0, 1);
        bad("  \n", 3, 1);
        bad("posts", 5, 1);
        bad("posts 1 1", 9, 1);
        bad("posts 1 1  ", 11, 1);
        bad("posts 1 1;need 0 0 0 1", 22, 1);
        bad("posts 1 1;shift", 15, 1);
        bad("posts 1 1;shift 0 0 9", 21, 1);
        bad("posts 1 1;shift 0 0 9 pause 1 0 0\n", 34, 1);
    }

    private static void wrongNumbers() {
        bad("posts 0 1;", 6, 2);
        bad("posts 4 1;", 6, 2);
        bad("posts 1 0;", 8, 2);
        bad("posts 1 5;", 8, 2);
        bad("posts 2 1;need 2 0 0 1;", 15, 2);
        bad("posts 1 1;need 0 48 48 1;", 17, 2);
        bad("posts 1 1;need 0 5 4 1;", 19, 2);
        bad("posts 1 1;need 0 5 48 1;", 19, 2);
        bad("posts 1 1;need 0 5 5 10;", 21, 2);
        bad("posts 3 1;shift 3 0 0;", 16, 2);
        bad("posts 1 1;shift 0 48 0;", 18, 2);
        bad("posts 1 1;shift 0 9 8;", 20, 2);
        bad("posts 1 1;shift 0 9 48;", 20, 2);
        bad("posts 1 1;shift 0 5 9 pause 0 5 5;", 28, 2);
        bad("posts 1 1;shift 0 5 9 pause 5 5 5;", 28, 2);
        bad("posts 1 1;shift 0 5 9 pause 1 4 5;", 30, 2);
        bad("posts 1 1;shift 0 5 9 pause 1 10 10;", 30, 2);
        bad("posts 1 1;shift 0 5 9 pause 1 6 5;", 32, 2);
        bad("posts 1 1;shift 0 5 9 pause 1 6 10;", 32, 2);
        bad("posts 1 1;shift 0 5 9 pause 2 6 9;", 32, 2);
        bad("posts 1 1;shift 0 5 9 pause 4 9 9;", 32, 2);
        bad("posts 1 1;shift 0 0 0 pause 2 0 0;", 32, 2);
        bad("posts 1 1;shift 0 0 0 pause 3 0 0;", 32, 2);
        bad("posts 1 1;shift 0 0 1 pause 4 0 0;", 32, 2);
        bad("posts 1 1;shift 0 9 20;shift 0 2 4 pause 1 2 9;", 45, 2);
    }

    private static void tooMany() {
        String needs = "posts 1 1;" + "need 0 0 0 1;".repeat(10);
        bad(needs + "need", 140, 3);
        bad(needs + "shift 0 0 0;need", 152, 1);
        String shifts = "posts 1 1;" + "shift 0 0 9;".repeat(8);
        bad(shifts + "shift 0 0", 106, 3);
        bad(needs + "shift 0 0 9;".repeat(8) + "  shift", 238, 3);
        String pauses = "posts 1 1;shift 0 0 9" + " pause 1 0 0".repeat(3);
        bad(pauses + " pause", 58, 3);
        bad(pauses + "; shift 0 0 9" + " pause 1 0 0".repeat(4), 107, 3);
    }

    private static void firstInTheList() {
        bad("posts 1 1;need 9 100", 15, 2);
        bad("posts 1 1;need 100 9", 15, 1);
        bad("posts 1 1;" + "need 0 0 0 1;".repeat(10) + "need5", 140, 1);
        bad("posts 1 1;" + "need 0 0 0 1;".repeat(10) + "99", 140, 1);
        bad("posts 1 1;" + "shift 0 0 9;".repeat(8) + "need", 106, 1);
    }

    private static void longTexts() {
        String head = "posts 1 1;";
        good(head + blanks(590), 1);
        bad(head + blanks(591), 600, 1);
        bad(head + blanks(630), 600, 1);
        bad(head + blanks(588) + "x" + blanks(20), 598, 1);
        bad(head + blanks(590) + ",", 600, 1);
        bad(head + blanks(600) + ",", 600, 1);
        bad(head + blanks(589) + ",", 599, 1);
        bad(head + blanks(589) + "," + blanks(10), 599, 1);
        bad("posts 1 1" + blanks(591), 600, 1);
        bad("posts 1 1" + blanks(580), 589, 1);
        bad("posts 1 1" + blanks(620), 600, 1);
        good("posts 1 1" + blanks(590) + ";", 1);
        bad("posts 1 1" + blanks(591) + ";", 600, 1);
        bad(head + blanks(588) + "need 0 0 0 1;", 600, 1);
        bad(head + blanks(588) + "needs 0 0 0 1;", 598, 1);
        bad(head + blanks(589) + "need", 600, 1);
        bad(head + blanks(580) + "need 0 0 100 1;", 599, 1);
        bad(head + blanks(581) + "need 0 0 50 1;", 600, 1);
        bad(head + blanks(580) + "need 0 0 50 1;", 599, 2);
        bad(head + blanks(580) + "need 0 0 47 1;", 600, 1);
    }
}
