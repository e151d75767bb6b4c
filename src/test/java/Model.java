import java.util.ArrayDeque;
import java.util.ArrayList;
import java.util.Arrays;
import java.util.Deque;
import java.util.List;
import java.util.regex.Matcher;
import java.util.regex.Pattern;

/**
 * The document once more, told in the slowest and plainest way: everything is counted anew from
 * the places at each question, nothing is shared with the class under test.
 */
final class Model {
    /** A fault of a text. */
    static final class Fault extends Exception {
        private static final long serialVersionUID = 1L;
        final int place;
        final int kind;

        Fault(int place, int kind) {
            this.place = place;
            this.kind = kind;
        }
    }

    private static final class Token {
        final int start;
        final String text;

        Token(int start, String text) {
            this.start = start;
            this.text = text;
        }
    }

    static final class Shift {
        final int post;
        final int from;
        final int to;
        final List<Integer> pauses = new ArrayList<>();

        Shift(int post, int from, int to) {
            this.post = post;
            this.from = from;
            this.to = to;
        }
    }

    static final class Pause {
        final int shift;
        final int length;
        final int early;
        final int late;

        Pause(int shift, int length, int early, int late) {
            this.shift = shift;
            this.length = length;
            this.early = early;
            this.late = late;
        }
    }

    private static final Pattern TOKEN = Pattern.compile("[a-z0-9]+|[^ \\n]");

    int posts = 1;
    int walk = 1;
    int lines = 0;
    final int[][] need = new int[3][48];
    final List<Shift> shifts = new ArrayList<>();
    final List<Pause> pauses = new ArrayList<>();
    int[] at = new int[0];
    private final Deque<int[]> acts = new ArrayDeque<>();

    private List<Token> tokens = List.of();
    private int next = 0;
    private int bytes = 0;

    /** A model of the text, or the text's fault. */
    static Model of(String text) throws Fault {
        Model model = new Model();
        model.bytes = text.length();
        model.tokens = new ArrayList<>();
        Matcher matcher = TOKEN.matcher(text);
        while (matcher.find()) {
            model.tokens.add(new Token(matcher.start(), matcher.group()));
        }
        model.readText();
        model.at = new int[model.pauses.size()];
        Arrays.fill(model.at, -1);
        return model;
    }

    private Token peek() throws Fault {
        if (bytes > 600 && (next >= tokens.size() || tokens.get(next).start >= 600)) {
            throw new Fault(600, 1);
        }
        if (next >= tokens.size()) {
            return null;
        }
        Token token = tokens.get(next);
        if (!token.text.matches("[a-z]+|[0-9][0-9]?|;")) {
            throw new Fault(token.start, 1);
        }
        return token;
    }

    private boolean comes(String word) throws Fault {
        Token token = peek();
        return token != null && token.text.equals(word);
    }

    private void expect(String word) throws Fault {
        if (!comes(word)) {
            Token token = peek();
            throw new Fault(token == null ? bytes : token.start, 1);
        }
        next++;
    }

    private int number(int low, int high) throws Fault {
        Token token = peek();
        if (token == null || !token.text.matches("[0-9]+")) {
            throw new Fault(token == null ? bytes : token.start, 1);
        }
        int number = Integer.parseInt(token.text);
        if (number < low || number > high) {
            throw new Fault(token.start, 2);
        }
        next++;
        return number;
    }

    private void limit(int there, int most) throws Fault {
        if (there >= most) {
            throw new Fault(peek().start, 3);
        }
        next++;
    }

    private void readText() throws Fault {
        expect("posts");
        posts = number(1, 3);
        walk = number(1, 4);
        expect(";");
        int needs = 0;
        while (comes("need")) {
            limit(needs++, 10);
            int post = number(0, posts - 1);
            int from = number(0, 47);
            int to = number(from, 47);
            int many = number(0, 9);
            for (int slot = from; slot <= to; slot++) {
                need[post][slot] += many;
            }
            expect(";");
        }
        while (comes("shift")) {
            limit(shifts.size(), 8);
            int post = number(0, posts - 1);
            int from = number(0, 47);
            Shift shift = new Shift(post, from, number(from, 47));
            shifts.add(shift);
            readPauses(shift);
            expect(";");
        }
        if (peek() != null) {
            throw new Fault(peek().start, 1);
        }
        lines = 1 + needs + shifts.size();
    }

    private void readPauses(Shift shift) throws Fault {
        while (comes("pause")) {
            limit(shift.pauses.size(), 3);
            int length = number(1, 4);
            int early = number(shift.from, shift.to);
            int late = number(early, shift.to - length + 1);
            shift.pauses.add(pauses.size());
            pauses.add(new Pause(shifts.size() - 1, length, early, late));
        }
    }

    int cover(int post, int slot) {
        int cover = 0;
        for (Shift shift : shifts) {
            if (shift.post == post && shift.from <= slot && slot <= shift.to && !inPause(shift, slot)) {
                cover++;
            }
        }
        return cover;
    }

    private boolean inPause(Shift shift, int slot) {
        for (int pause : shift.pauses) {
            if (at[pause] >= 0 && at[pause] <= slot && slot < at[pause] + pauses.get(pause).length) {
                return true;
            }
        }
        return false;
    }

    int shortOf(int post, int slot) {
        return Math.max(0, need[post][slot] - cover(post, slot));
    }

    int shortfall() {
        int all = 0;
        for (int post = 0; post < posts; post++) {
            for (int slot = 0; slot < 48; slot++) {
                all += shortOf(post, slot);
            }
        }
        return all;
    }

    boolean isPause(int pause) {
        return pause >= 0 && pause < pauses.size();
    }

    boolean isPost(int post) {
        return post >= 0 && post < posts;
    }

    static boolean isSlot(int slot) {
        return slot >= 0 && slot <= 47;
    }

    int placed() {
        int placed = 0;
        for (int place : at) {
            placed += place >= 0 ? 1 : 0;
        }
        return placed;
    }

    int acts() {
        return acts.size();
    }

    int slot(int post, int slot, int what) {
        if (!isPost(post) || !isSlot(slot) || what < 0 || what > 2) {
            return -1;
        }
        return what == 0 ? need[post][slot] : what == 1 ? cover(post, slot) : shortOf(post, slot);
    }

    int why(int pause, int slot) {
        if (!isPause(pause) || !isSlot(slot)) {
            return -1;
        }
        Pause own = pauses.get(pause);
        if (slot < own.early || slot > own.late) {
            return 1;
        }
        for (int other : shifts.get(own.shift).pauses) {
            if (other != pause && at[other] >= 0) {
                for (int mine = slot; mine < slot + own.length; mine++) {
                    for (int his = at[other]; his < at[other] + pauses.get(other).length; his++) {
                        if (Math.abs(mine - his) <= 1) {
                            return 2;
                        }
                    }
                }
            }
        }
        return 0;
    }

    int would(int pause, int slot) {
        if (why(pause, slot) != 0) {
            return -1;
        }
        int was = at[pause];
        at[pause] = slot;
        int would = shortfall();
        at[pause] = was;
        return would;
    }

    int best(int pause) {
        if (!isPause(pause)) {
            return -1;
        }
        int best = -2;
        for (int slot = 0; slot < 48; slot++) {
            if (why(pause, slot) == 0 && (best == -2 || would(pause, slot) < would(pause, best))) {
                best = slot;
            }
        }
        return best;
    }

    int better() {
        int better = -2;
        int least = shortfall();
        for (int pause = 0; pause < at.length; pause++) {
            for (int slot = 0; slot < 48; slot++) {
                if (at[pause] >= 0 && at[pause] != slot && why(pause, slot) == 0 && would(pause, slot) < least) {
                    least = would(pause, slot);
                    better = pause * 100 + slot;
                }
            }
        }
        return better;
    }

    boolean hasLeast(int post) {
        if (!isPost(post)) {
            return false;
        }
        for (Shift shift : shifts) {
            if (shift.post == post && (shift.pauses.size() != 1 || pauses.get(shift.pauses.get(0)).length != 1)) {
                return false;
            }
        }
        return true;
    }

    /** How many ways there are to try for least(). */
    long waysOfLeast(int post) {
        long ways = 1;
        for (Shift shift : shifts) {
            if (shift.post == post) {
                Pause pause = pauses.get(shift.pauses.get(0));
                ways *= pause.late - pause.early + 1;
            }
        }
        return ways;
    }

    /** By trying all places. */
    int least(int post) {
        if (!hasLeast(post)) {
            return -1;
        }
        int[] room = new int[48];
        for (int slot = 0; slot < 48; slot++) {
            room[slot] = -need[post][slot];
            for (Shift shift : shifts) {
                room[slot] += shift.post == post && shift.from <= slot && slot <= shift.to ? 1 : 0;
            }
        }
        return leastFrom(post, 0, room);
    }

    private int leastFrom(int post, int number, int[] room) {
        if (number == shifts.size()) {
            int all = 0;
            for (int slot = 0; slot < 48; slot++) {
                all += Math.max(0, -room[slot]);
            }
            return all;
        }
        Shift shift = shifts.get(number);
        if (shift.post != post) {
            return leastFrom(post, number + 1, room);
        }
        Pause pause = pauses.get(shift.pauses.get(0));
        int least = Integer.MAX_VALUE;
        for (int slot = pause.early; slot <= pause.late; slot++) {
            room[slot]--;
            least = Math.min(least, leastFrom(post, number + 1, room));
            room[slot]++;
        }
        return least;
    }

    /** The way of a relief as a row of 48 signs: whole rows are compared, none is ruled out ahead. */
    String way(int post) {
        String[][] ways = new String[49][posts];
        Arrays.fill(ways[48], "");
        for (int slot = 47; slot >= 0; slot--) {
            for (int from = 0; from < posts; from++) {
                String best = from + ways[slot + 1][from];
                for (int to = 0; to < posts; to++) {
                    if (to != from) {
                        String walked = "9".repeat(Math.min(walk, 48 - slot)) + ways[Math.min(48, slot + walk)][to];
                        int more = help(walked) - help(best);
                        if (more > 0 || more == 0 && walked.compareTo(best) < 0) {
                            best = walked;
                        }
                    }
                }
                ways[slot][from] = best;
            }
        }
        return ways[0][post];
    }

    int help(String way) {
        int help = 0;
        int first = 48 - way.length();
        for (int i = 0; i < way.length(); i++) {
            int post = way.charAt(i) - '0';
            help += post != 9 && shortOf(post, first + i) > 0 ? 1 : 0;
        }
        return help;
    }

    int relief(int post, int slot) {
        if (!isPost(post) || slot != -1 && !isSlot(slot)) {
            return -1;
        }
        String way = way(post);
        return slot == -1 ? help(way) : way.charAt(slot) - '0';
    }

    int worst() {
        int worst = -1;
        int most = 0;
        for (int slot = 0; slot < 48; slot++) {
            int all = 0;
            for (int post = 0; post < posts; post++) {
                all += shortOf(post, slot);
            }
            if (all > most) {
                most = all;
                worst = slot;
            }
        }
        return worst;
    }

    private void keep() {
        acts.addLast(at.clone());
        if (acts.size() > 10) {
            acts.removeFirst();
        }
    }

    int place(int pause, int slot) {
        if (!isPause(pause) || !isSlot(slot) || at[pause] == slot) {
            return -1;
        }
        int why = why(pause, slot);
        if (why == 0) {
            keep();
            at[pause] = slot;
        }
        return why;
    }

    int take(int pause) {
        if (!isPause(pause) || at[pause] == -1) {
            return -1;
        }
        keep();
        int was = at[pause];
        at[pause] = -1;
        return was;
    }

    int fill() {
        keep();
        int filled = 0;
        for (int pause = 0; pause < at.length; pause++) {
            if (at[pause] == -1 && best(pause) != -2) {
                at[pause] = best(pause);
                filled++;
            }
        }
        return filled;
    }

    int settle() {
        int better = better();
        if (better == -2) {
            return -1;
        }
        keep();
        int times = 0;
        while (better != -2 && times < 40) {
            at[better / 100] = better % 100;
            times++;
            better = better();
        }
        return times;
    }

    int undo() {
        if (acts.isEmpty()) {
            return -1;
        }
        at = acts.removeLast();
        return acts.size();
    }
}
