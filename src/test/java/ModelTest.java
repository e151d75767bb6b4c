import java.util.Random;

/** All promises together: random runs of calls, each answer against the plain model's. */
public final class ModelTest {
    private static final Checks CHECKS = new Checks("ModelTest");
    private static final int RUNS = 400;
    private static final int CALLS = 160;
    private static final int TEXTS = 30000;

    private final Random random;
    private BreakSetter x = new BreakSetter();
    private Model model = new Model();
    private String log = "";

    private ModelTest(long seed) {
        random = new Random(seed);
    }

    public static void main(String[] args) {
        ModelTest texts = new ModelTest(1);
        for (int i = 0; i < TEXTS; i++) {
            texts.tellText(texts.spoil(texts.randomText(false)));
        }
        for (int seed = 0; seed < RUNS; seed++) {
            new ModelTest(seed).run();
        }
        CHECKS.finish();
    }

    private int upTo(int most) {
        return random.nextInt(most + 1);
    }

    private int between(int low, int high) {
        return high < low ? low : low + random.nextInt(high - low + 1);
    }

    private void run() {
        boolean short1 = random.nextInt(3) == 0;
        tellText(randomText(short1));
        for (int i = 0; i < CALLS; i++) {
            int kind = random.nextInt(26);
            if (kind == 25 && random.nextInt(3) == 0) {
                tellText(random.nextBoolean() ? randomText(short1) : spoil(randomText(short1)));
            }
            ask(kind);
            whole();
        }
    }

    private void tellText(String text) {
        int due;
        int kind = 0;
        try {
            Model fresh = Model.of(text);
            model = fresh;
            due = fresh.lines;
            log = text;
        } catch (Model.Fault fault) {
            due = -1 - fault.place;
            kind = fault.kind;
        }
        CHECKS.same("text() of \"" + text + "\"", Checks.tell(x, text), due);
        CHECKS.same("fault() of \"" + text + "\"", x.fault(), kind);
    }

    private void same(String call, long got, long due) {
        CHECKS.same(call + " behind \"" + log + "\" with " + java.util.Arrays.toString(model.at), got, due);
    }

    /** What is seen of the state behind each call. */
    private void whole() {
        same("now(0)", x.now(0), model.posts);
        same("now(1)", x.now(1), model.shifts.size());
        same("now(2)", x.now(2), model.pauses.size());
        same("now(3)", x.now(3), model.placed());
        same("now(4)", x.now(4), model.shortfall());
        same("now(5)", x.now(5), model.walk);
        same("now(6)", x.now(6), model.acts());
        for (int pause = 0; pause < model.at.length; pause++) {
            same("pause(" + pause + ", 4)", x.pause(pause, 4), model.at[pause]);
        }
    }

    private void ask(int kind) {
        int pause = between(-1, model.pauses.size());
        int slot = model.isPause(pause) && random.nextInt(4) != 0
                ? between(model.pauses.get(pause).early, model.pauses.get(pause).late) : between(-2, 49);
        int post = between(-1, 3);
        switch (kind) {
            case 0: case 1: case 2: case 3: case 4: case 5:
                same("place(" + pause + ", " + slot + ")", x.place(pause, slot), model.place(pause, slot));
                break;
            case 6: case 7:
                same("take(" + pause + ")", x.take(pause), model.take(pause));
                break;
            case 8:
                same("fill()", x.fill(), model.fill());
                break;
            case 9: case 10:
                same("settle()", x.settle(), model.settle());
                break;
            case 11: case 12:
                same("undo()", x.undo(), model.undo());
                break;
            case 13: case 14:
                same("why(" + pause + ", " + slot + ")", x.why(pause, slot), model.why(pause, slot));
                break;
            case 15: case 16:
                same("would(" + pause + ", " + slot + ")", x.would(pause, slot), model.would(pause, slot));
                break;
            case 17:
                same("best(" + pause + ")", x.best(pause), model.best(pause));
                break;
            case 18:
                same("better()", x.better(), model.better());
                break;
            case 19:
                same("worst()", x.worst(), model.worst());
                break;
            case 20:
                askLeast(post);
                break;
            case 21: case 22:
                same("relief(" + post + ", " + slot + ")", x.relief(post, slot), model.relief(post, slot));
                same("relief(" + post + ", -1)", x.relief(post, -1), model.relief(post, -1));
                break;
            case 23:
                askWholeWay();
                break;
            case 24:
                askFacts();
                break;
            default:
                int what = between(-1, 3);
                same("slot(" + post + ", " + slot + ", " + what + ")", x.slot(post, slot, what),
                        model.slot(post, slot, what));
                break;
        }
    }

    private void askLeast(int post) {
        if (!model.hasLeast(post) || model.waysOfLeast(post) <= 20000) {
            same("least(" + post + ")", x.least(post), model.least(post));
        }
    }

    private void askWholeWay() {
        int post = between(0, model.posts - 1);
        String way = model.way(post);
        for (int slot = 0; slot < 48; slot++) {
            same("relief(" + post + ", " + slot + ")", x.relief(post, slot), way.charAt(slot) - '0');
        }
    }

    private void askFacts() {
        for (int number = 0; number < model.shifts.size(); number++) {
            Model.Shift shift = model.shifts.get(number);
            int first = shift.pauses.isEmpty() ? -1 : shift.pauses.get(0);
            int[] due = {shift.post, shift.from, shift.to, shift.pauses.size(), first};
            for (int what = 0; what < due.length; what++) {
                same("shift(" + number + ", " + what + ")", x.shift(number, what), due[what]);
            }
        }
        for (int number = 0; number < model.pauses.size(); number++) {
            Model.Pause pause = model.pauses.get(number);
            int[] due = {pause.shift, pause.length, pause.early, pause.late};
            for (int what = 0; what < due.length; what++) {
                same("pause(" + number + ", " + what + ")", x.pause(number, what), due[what]);
            }
        }
    }

    /** A TEXT; with short pauses: mostly such that least() has an answer and can be tried out. */
    private String randomText(boolean shortPauses) {
        int posts = between(1, 3);
        StringBuilder text = new StringBuilder("posts " + posts + " " + between(1, 4) + ";");
        for (int i = upTo(10); i > 0; i--) {
            int from = upTo(47);
            int to = between(from, Math.min(47, from + upTo(20)));
            text.append("need ").append(upTo(posts - 1)).append(' ').append(from).append(' ').append(to)
                    .append(' ').append(random.nextInt(4) == 0 ? upTo(9) : upTo(2)).append(';');
        }
        for (int i = upTo(8); i > 0; i--) {
            int from = upTo(random.nextBoolean() ? 47 : 12);
            int to = between(from, 47);
            text.append("shift ").append(upTo(posts - 1)).append(' ').append(from).append(' ').append(to);
            int pauses = shortPauses ? (random.nextInt(30) == 0 ? 0 : 1) : upTo(3);
            for (int k = 0; k < pauses; k++) {
                addPause(text, from, to, shortPauses);
            }
            text.append(';');
        }
        return text.toString();
    }

    private void addPause(StringBuilder text, int from, int to, boolean shortPauses) {
        int length = shortPauses ? 1 : between(1, Math.min(4, to - from + 1));
        int last = to - length + 1;
        int early = between(from, last);
        int late = between(early, shortPauses ? Math.min(last, early + 3) : last);
        text.append(" pause ").append(length).append(' ').append(early).append(' ').append(late);
    }

    /** Takes, puts, doubles or changes a few signs; sometimes makes the text too long. */
    private String spoil(String text) {
        StringBuilder spoilt = new StringBuilder(text);
        String signs = "  \n;0123456789apz,A\0" + (char) 200;
        for (int i = upTo(3); i > 0 && spoilt.length() > 0; i--) {
            int place = random.nextInt(spoilt.length());
            switch (random.nextInt(5)) {
                case 0:
                    spoilt.deleteCharAt(place);
                    break;
                case 1:
                    spoilt.insert(place, signs.charAt(random.nextInt(signs.length())));
                    break;
                case 2:
                    spoilt.setCharAt(place, signs.charAt(random.nextInt(signs.length())));
                    break;
                case 3:
                    int line = spoilt.indexOf(";", place);
                    spoilt.insert(line + 1, spoilt.substring(Math.min(place, line + 1), line + 1));
                    break;
                default:
                    blank(spoilt, place);
                    break;
            }
        }
        if (spoilt.length() > 640) {
            spoilt.setLength(640);
        }
        return spoilt.toString();
    }

    /** Stretches a blank, now and then so that the text ends near 600 bytes. */
    private void blank(StringBuilder text, int place) {
        int blank = text.indexOf(" ", place);
        int many = random.nextBoolean() ? upTo(3) : between(585, 625) - text.length();
        if (blank >= 0 && many > 0) {
            text.insert(blank, " ".repeat(many));
        }
    }
}
