/** Sentences of the Terms about tokens and what a text is made of. */
final class TokenEdges {
    private static final String HEAD = "posts 1 1;";

    private final Edges edges;

    TokenEdges(Edges edges) {
        this.edges = edges;
    }

    void all() {
        blanksBetweenOrNot();
        otherSignsAreNoBlanks();
        smallLettersAlone();
        oneOrTwoDigits();
        theSign();
        tokensGoOn();
        sixHundredBytes();
        whatComesWhere();
        postsAndWalk();
        postOfALine();
        fromAndTo();
        many();
        eightShifts();
        threePauses();
        longOfAPause();
        earlyOfAPause();
        lateOfAPause();
        tenNeeds();
    }

    static boolean isBlank(int sign) {
        return sign == 32 || sign == 10;
    }

    static boolean isLetter(int sign) {
        return sign >= 97 && sign <= 122;
    }

    static boolean isDigit(int sign) {
        return sign >= 48 && sign <= 57;
    }

    private void blanksBetweenOrNot() {
        edges.says("Terms", "TOKENS of a text, with blanks (32, 10) between them or not");
        edges.good("posts 1 1;need 0 0 0 1;shift 0 0 9 pause 1 0 0;shift 0 1 1;");
        edges.good(" \n posts \n 1\n\n1 ; \n need\n0  0\n0 1\n;\nshift 0 0 9\npause 1 0 0 ; shift 0 1 1\n;\n \n");
        edges.good("\nposts\n1\n1\n;");
        edges.good("posts 1 1\n;");
    }

    private void otherSignsAreNoBlanks() {
        edges.says("Terms", "blanks (32, 10)");
        for (int sign = 0; sign < 256; sign++) {
            String text = "posts" + (char) sign + "1 1;";
            if (isBlank(sign)) {
                edges.good(text);
            } else {
                edges.bad(text, isLetter(sign) || isDigit(sign) ? 0 : 5, 1);
            }
        }
    }

    private void smallLettersAlone() {
        edges.says("Terms", "WORDS: small letters");
        for (String word : new String[] {"Posts", "POSTS", "postS", "post", "postss", "post_s", "`", "{", "@", "["}) {
            edges.bad(word + " 1 1;", 0, 1);
        }
        otherLetters("", "posts", " 1 1;");
        otherLetters(HEAD, "need", " 0 0 0 1;");
        otherLetters(HEAD, "shift", " 0 0 0;");
        otherLetters(HEAD + "shift 0 0 0 ", "pause", " 1 0 0;");
    }

    /** The word with each of its letters changed, doubled or left out is another one. */
    private void otherLetters(String ahead, String word, String behind) {
        edges.good(ahead + word + behind);
        for (int i = 0; i < word.length(); i++) {
            String start = ahead + word.substring(0, i);
            String end = word.substring(i + 1) + behind;
            edges.bad(start + "x" + end, ahead.length(), 1);
            edges.bad(start + word.charAt(i) + word.charAt(i) + end, ahead.length(), 1);
            edges.bad(start + end, ahead.length(), 1);
        }
    }

    private void oneOrTwoDigits() {
        edges.says("Terms", "NUMBERS: 1 or 2 digits");
        edges.good("posts 3 4;need 2 7 9 9;");
        edges.good("posts 03 04;need 02 07 09 09;shift 00 01 47 pause 02 01 46;");
        for (String long3 : new String[] {"001", "100", "000", "257", "65537", "4294967297", "00000000000000000001"}) {
            edges.bad("posts " + long3 + " 1;", 6, 1);
            edges.bad("posts 1 " + long3 + ";", 8, 1);
            edges.bad(HEAD + "need 0 " + long3 + " 47 1;", 17, 1);
        }
        for (int sign = 0; sign < 256; sign++) {
            String text = "posts 1" + (char) sign + " 1;";
            if (isBlank(sign)) {
                edges.good(text);
            } else if (isDigit(sign)) {
                edges.bad(text, 6, 2);
            } else {
                edges.bad(text, isLetter(sign) ? 6 : 7, 1);
            }
        }
    }

    private void theSign() {
        edges.says("Terms", "the sign ;");
        edges.bad(";", 0, 1);
        edges.bad(HEAD + ";", 10, 1);
        edges.bad(HEAD + "need 0 0 0 1;;", 23, 1);
        for (int sign = 0; sign < 256; sign++) {
            String text = "posts 1 1 " + (char) sign;
            if (sign == ';') {
                edges.good(text);
            } else {
                edges.bad(text, isBlank(sign) ? 11 : 10, 1);
            }
        }
    }

    private void tokensGoOn() {
        edges.says("Terms", "(A WORD, NUMBER goes on as long as small letters and digits do;"
                + " what is not as told is no TOKEN.)");
        edges.bad("posts1 1;", 0, 1);
        edges.bad("1posts 1 1;", 0, 1);
        edges.bad("posts 1a 1;", 6, 1);
        edges.bad("posts a1 1;", 6, 1);
        edges.bad(HEAD + "need0 0 0 1;", 10, 1);
        edges.bad(HEAD + "0need 0 0 0 1;", 10, 1);
        edges.bad(HEAD + "needshift 0 0 0 1;", 10, 1);
        edges.bad(HEAD + "need 0 0 0 1shift 0 0 0;", 21, 1);
        edges.bad(HEAD + "shift 0 0 9pause 1 0 0;", 20, 1);
        edges.bad(HEAD + "need 0 47470 1;", 17, 1);
    }

    private void sixHundredBytes() {
        edges.says("Terms", "A TEXT has at most 600 bytes");
        String full = HEAD + "need 0 0 47 9;".repeat(10) + ("shift 0 0 9" + " pause 1 0 0".repeat(3) + ";").repeat(8);
        edges.good(HEAD + " ".repeat(589));
        edges.good(HEAD + " ".repeat(590));
        edges.good(" ".repeat(590) + HEAD);
        edges.good(full + "\n".repeat(600 - full.length()));
        edges.good(HEAD + " ".repeat(600 - full.length()) + full.substring(10));
        edges.bad(HEAD + " ".repeat(591), 600, 1);
        edges.bad(" ".repeat(591) + HEAD, 600, 1);
        edges.bad(HEAD + " ".repeat(601 - full.length()) + full.substring(10), 600, 1);
        edges.bad(full + "\n".repeat(601 - full.length()), 600, 1);
        edges.bad(HEAD + " ".repeat(630), 600, 1);
    }

    /** Each token of a text, with all that may stand in its place (# a number, . the end). */
    private void whatComesWhere() {
        edges.says("Terms", "'posts' N W ; { 'need' POST FROM TO MANY ; }"
                + " { 'shift' POST FROM TO { 'pause' LONG EARLY LATE } ; }.");
        String[] tokens = ("posts 2 3 ; need 1 4 9 2 ; need 0 0 0 0 ; shift 1 2 9 pause 2 3 5 pause 1 8 9 ;"
                + " shift 0 0 5 ; shift 1 1 1 pause 1 1 1 ;").split(" ");
        String[] dues = ("posts,#,#,;,need/shift/.,#,#,#,#,;,need/shift/.,#,#,#,#,;,need/shift/.,#,#,#,pause/;,#,#,#,"
                + "pause/;,#,#,#,pause/;,shift/.,#,#,#,pause/;,shift/.,#,#,#,pause/;,#,#,#,pause/;,shift/.").split(",");
        edges.same("places that are told", dues.length, tokens.length + 1);
        StringBuilder ahead = new StringBuilder();
        for (int i = 0; i < dues.length; i++) {
            endHere(ahead.toString(), dues[i]);
            for (String token : new String[] {"posts", "need", "shift", "pause", "foo", ";", "0", "99"}) {
                tokenHere(ahead.toString(), token, dues[i]);
            }
            ahead.append(i < tokens.length ? tokens[i] : "").append(' ');
        }
    }

    private void endHere(String ahead, String due) {
        if (due.endsWith(".")) {
            edges.good(ahead);
        } else {
            edges.bad(ahead, ahead.length(), 1);
        }
    }

    private void tokenHere(String ahead, String token, String due) {
        boolean mayCome = false;
        for (String one : due.split("/")) {
            mayCome |= one.equals(token) || one.equals("#") && isDigit(token.charAt(0));
        }
        if (!mayCome) {
            edges.bad(ahead + token, ahead.length(), 1);
            return;
        }
        BreakSetter x = new BreakSetter();
        int answer = Checks.tell(x, ahead + token);
        edges.isTrue("\"" + ahead + token + "\": the last one may come (" + answer + ", " + x.fault() + ")",
                answer != -1 - ahead.length() || x.fault() == 2);
    }

    /** All numbers there are, in one place of a text: which of them are as told. */
    private void numbers(String ahead, int low, int high, String behind) {
        for (int number = 0; number <= 99; number++) {
            if (number >= low && number <= high) {
                edges.good(ahead + number + behind);
            } else {
                edges.bad(ahead + number + behind, ahead.length(), 2);
            }
        }
    }

    private void postsAndWalk() {
        edges.says("Terms", "N 1 to 3, W 1 to 4");
        numbers("posts ", 1, 3, " 1;");
        numbers("posts 1 ", 1, 4, ";");
        for (int posts = 1; posts <= 3; posts++) {
            for (int walk = 1; walk <= 4; walk++) {
                BreakSetter x = edges.good("posts " + posts + " " + walk + ";");
                edges.same("N", x.now(0), posts);
                edges.same("W", x.now(5), walk);
            }
        }
    }

    private void postOfALine() {
        edges.says("Terms", "POST 0 to N less 1");
        for (int posts = 1; posts <= 3; posts++) {
            numbers("posts " + posts + " 1;need ", 0, posts - 1, " 0 0 0;");
            numbers("posts " + posts + " 1;shift ", 0, posts - 1, " 0 0;");
        }
    }

    private void fromAndTo() {
        edges.says("Terms", "FROM 0 to 47, TO FROM to 47");
        numbers(HEAD + "need 0 ", 0, 47, " 47 0;");
        numbers(HEAD + "shift 0 ", 0, 47, " 47;");
        for (int from : new int[] {0, 1, 23, 46, 47}) {
            numbers(HEAD + "need 0 " + from + " ", from, 47, " 0;");
            numbers(HEAD + "shift 0 " + from + " ", from, 47, ";");
            numbers(HEAD + "shift 0 40 47;shift 0 " + from + " ", from, 47, ";");
        }
    }

    private void many() {
        edges.says("Terms", "MANY 0 to 9");
        numbers(HEAD + "need 0 0 0 ", 0, 9, ";");
        for (int many = 0; many <= 9; many++) {
            edges.same("NEED", edges.good(HEAD + "need 0 0 0 " + many + ";").slot(0, 0, 0), many);
        }
    }

    private void eightShifts() {
        edges.says("Terms", "8 SHIFTS at most, numbered from 0");
        StringBuilder text = new StringBuilder("posts 3 1;");
        for (int shift = 0; shift < 8; shift++) {
            text.append("shift ").append(shift % 3).append(' ').append(shift).append(" 40;");
            BreakSetter x = edges.good(text.toString());
            edges.same("SHIFTS", x.now(1), shift + 1);
            edges.same("FROM of the last", x.shift(shift, 1), shift);
            edges.same("FROM of the first", x.shift(0, 1), 0);
        }
        edges.bad(text + "shift 0 0 40;", text.length(), 3);
        edges.bad(text + "shift", text.length(), 3);
        countedAnew(text.toString(), "shift 0 0 0;");
    }

    private void threePauses() {
        edges.says("Terms", "3 PAUSES of each at most, numbered from 0 through all SHIFTS");
        StringBuilder text = new StringBuilder(HEAD);
        int pauses = 0;
        for (int shift = 0; shift < 8; shift++) {
            text.append("shift 0 0 47");
            int many = shift % 4 == 2 ? 0 : 3;
            for (int i = 0; i < many; i++) {
                text.append(" pause 1 ").append(pauses + i).append(" 40");
            }
            BreakSetter x = edges.good(text + ";");
            edges.same("PAUSES of the last", x.shift(shift, 3), many);
            edges.same("the first of these", x.shift(shift, 4), many == 0 ? -1 : pauses);
            pauses += many;
            edges.same("PAUSES", x.now(2), pauses);
            edges.same("the SHIFT of the last", x.pause(pauses - 1, 0), many == 0 ? shift - 1 : shift);
            edges.same("EARLY of the last", x.pause(pauses - 1, 2), pauses - 1);
            if (many == 3) {
                edges.bad(text + " pause 1 0 0;", text.length() + 1, 3);
            }
            text.append(';');
        }
        String most = HEAD + ("shift 0 0 9" + " pause 1 0 0".repeat(3) + ";").repeat(8);
        BreakSetter full = edges.good(most);
        edges.same("PAUSES of a full text", full.now(2), 24);
        edges.same("the SHIFT of the last of a full text", full.pause(23, 0), 7);
        edges.bad(most.substring(0, most.length() - 1) + " pause 1 0 0;", most.length(), 3);
        edges.same("a full text again", Checks.tell(full, most), 9);
        edges.same("PAUSES of it", full.now(2), 24);
    }

    private void longOfAPause() {
        edges.says("Terms", "LONG 1 to 4");
        numbers(HEAD + "shift 0 0 47 pause ", 1, 4, " 0 0;");
        numbers(HEAD + "shift 0 0 0 pause 1 0 0 pause ", 1, 1, " 0 0;", 4);
    }

    /** As above, but up to a bound a number is as told and the one behind the next blank is not. */
    private void numbers(String ahead, int low, int high, String behind, int bound) {
        for (int number = 0; number <= 9; number++) {
            String text = ahead + number + behind;
            if (number >= low && number <= high) {
                edges.good(text);
            } else if (number > high && number <= bound) {
                edges.bad(text, text.lastIndexOf(' ') + 1, 2);
            } else {
                edges.bad(text, ahead.length(), 2);
            }
        }
    }

    private void earlyOfAPause() {
        edges.says("Terms", "EARLY FROM to TO");
        numbers(HEAD + "shift 0 5 9 pause 1 ", 5, 9, " 9;");
        numbers(HEAD + "shift 0 0 47 pause 1 ", 0, 47, " 47;");
        numbers(HEAD + "shift 0 47 47 pause 1 ", 47, 47, " 47;");
        numbers(HEAD + "shift 0 20 40;shift 0 5 9 pause 1 ", 5, 9, " 9;");
        numbers(HEAD + "need 0 20 40 1;shift 0 5 9 pause 1 6 6 pause 1 ", 5, 9, " 9;");
        numbers(HEAD + "shift 0 5 9 pause 4 ", 5, 6, " 6;", 9);
    }

    private void lateOfAPause() {
        edges.says("Terms", "LATE EARLY to TO less LONG and 1 more (both of its SHIFT)");
        for (int length = 1; length <= 4; length++) {
            for (int early = 5; early <= 9; early++) {
                numbers(HEAD + "shift 0 5 9 pause " + length + " " + early + " ", early, 10 - length, ";");
            }
            numbers(HEAD + "shift 0 0 47 pause " + length + " 0 ", 0, 48 - length, ";");
            numbers(HEAD + "shift 0 0 47;shift 0 20 22 pause " + length + " 20 ", 20, 23 - length, ";");
            numbers(HEAD + "shift 0 0 0 pause " + length + " 0 ", 0, 1 - length, ";");
        }
    }

    private void tenNeeds() {
        edges.says("Terms", "10 'need' LINES at most.");
        StringBuilder text = new StringBuilder("posts 2 1;");
        for (int line = 1; line <= 10; line++) {
            text.append("need ").append(line % 2).append(" 0 47 9;");
            BreakSetter x = edges.good(text.toString());
            edges.same("NEED", x.slot(1, 47, 0) + x.slot(0, 0, 0), 9 * line);
        }
        edges.good(text + "shift 0 0 0;");
        edges.bad(text + "need 0 0 0 0;", text.length(), 3);
        edges.bad(text + "\n need", text.length() + 2, 3);
        countedAnew(text.toString(), "need 0 0 0 0;");
    }

    /** What one TEXT has, and what one with a FAULT has, is not counted in the next. */
    private void countedAnew(String full, String oneMore) {
        BreakSetter x = new BreakSetter();
        int lines = full.length() - full.replace(";", "").length();
        for (int round = 0; round < 3; round++) {
            edges.same("full, round " + round, Checks.tell(x, full), lines);
            edges.same("one more, round " + round, Checks.tell(x, full + oneMore), -1 - full.length());
            edges.same("kind, round " + round, x.fault(), 3);
        }
    }
}
