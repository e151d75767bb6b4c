import java.util.Arrays;
import java.util.NoSuchElementException;

/** Sets the breaks of shifts: see README.md, and the document for each promise. */
public final class BreakSetter {
    public static final int NONE = -1;

    private static final int NOTHING_FITS = -2;
    private static final int SLOTS = 48;
    private static final int MOST_POSTS = 3;
    private static final int MOST_NEEDS = 10;
    private static final int MOST_SHIFTS = 8;
    private static final int MOST_PAUSES_OF_SHIFT = 3;
    private static final int MOST_PAUSES = 24;
    private static final int MOST_MOVES = 40;
    private static final int MOST_ACTS = 10;
    private static final int MOVE_BASE = 100;

    private final Tape tape;
    private final Reader reader;
    private final Plan draft;
    private final Plan plan;
    private final Roster roster;
    private final Walker walker;
    private final History history;
    private int latestFault;

    public BreakSetter() {
        tape = new Tape();
        draft = new Plan();
        plan = new Plan();
        reader = new Reader(tape, draft);
        roster = new Roster(plan);
        walker = new Walker(plan, roster);
        history = new History();
        latestFault = 0;
    }

    public int feed(int a, int b, int c, int d, int e) {
        if (!tape.hasRoomForFeed()) {
            return NONE;
        }
        tape.append(a);
        tape.append(b);
        tape.append(c);
        tape.append(d);
        tape.append(e);
        return tape.length;
    }

    public boolean end(int n) {
        return tape.cutTo(n);
    }

    public int text() {
        int faultPlace = reader.readAll();
        latestFault = reader.faultKind;
        tape.cutTo(0);
        if (faultPlace != NONE) {
            return -1 - faultPlace;
        }
        plan.become(draft);
        roster.clear();
        history.clear();
        return plan.lines;
    }

    public int fault() {
        return latestFault;
    }

    public int now(int what) {
        switch (what) {
            case 0:
                return plan.posts;
            case 1:
                return plan.shifts;
            case 2:
                return plan.pauses;
            case 3:
                return roster.countPlaced();
            case 4:
                return roster.shortfall;
            case 5:
                return plan.walk;
            case 6:
                return history.count;
            case 7:
                return tape.length;
            default:
                return NONE;
        }
    }

    public int shift(int shift, int what) throws NoSuchElementException {
        if (!plan.hasShift(shift)) {
            throw new NoSuchElementException("no such shift");
        }
        switch (what) {
            case 0:
                return plan.shiftPost[shift];
            case 1:
                return plan.shiftFrom[shift];
            case 2:
                return plan.shiftTo[shift];
            case 3:
                return plan.shiftPauses[shift];
            case 4:
                return plan.shiftPauses[shift] == 0 ? NONE : plan.shiftFirst[shift];
            default:
                throw new NoSuchElementException("no such fact of a shift");
        }
    }

    public int pause(int pause, int what) throws NoSuchElementException {
        if (!plan.hasPause(pause)) {
            throw new NoSuchElementException("no such pause");
        }
        switch (what) {
            case 0:
                return plan.pauseShift[pause];
            case 1:
                return plan.pauseLong[pause];
            case 2:
                return plan.pauseEarly[pause];
            case 3:
                return plan.pauseLate[pause];
            case 4:
                return roster.places[pause];
            default:
                throw new NoSuchElementException("no such fact of a pause");
        }
    }

    public int slot(int post, int slot, int what) {
        if (!plan.hasPost(post) || !isSlot(slot)) {
            return NONE;
        }
        int cell = cellOf(post, slot);
        switch (what) {
            case 0:
                return plan.need[cell];
            case 1:
                return roster.cover[cell];
            case 2:
                return roster.shortOf(cell);
            default:
                return NONE;
        }
    }

    public int why(int pause, int slot) {
        if (!plan.hasPause(pause) || !isSlot(slot)) {
            return NONE;
        }
        return roster.reasonAgainst(pause, slot);
    }

    public int would(int pause, int slot) {
        if (!plan.hasPause(pause) || !isSlot(slot) || roster.reasonAgainst(pause, slot) != 0) {
            return NONE;
        }
        return roster.shortfallWithout(pause) + roster.lossAt(pause, slot);
    }

    public int best(int pause) {
        return plan.hasPause(pause) ? roster.findBestSlot(pause) : NONE;
    }

    public int better() {
        return roster.findBestMove();
    }

    public int least(int post) {
        return plan.hasPost(post) && plan.hasShortPausesAlone(post) ? plan.leastShortfallOf(post) : NONE;
    }

    public int relief(int post, int slot) {
        if (!plan.hasPost(post) || slot != NONE && !isSlot(slot)) {
            return NONE;
        }
        walker.plotWays();
        return slot == NONE ? walker.helpFrom(post) : walker.postOnWay(post, slot);
    }

    public int worst() {
        return roster.findWorstSlot();
    }

    public int place(int pause, int slot) {
        if (!plan.hasPause(pause) || !isSlot(slot) || roster.places[pause] == slot) {
            return NONE;
        }
        int reason = roster.reasonAgainst(pause, slot);
        if (reason != 0) {
            return reason;
        }
        history.keep(roster.places);
        roster.moveTo(pause, slot);
        return 0;
    }

    public int take(int pause) {
        if (!plan.hasPause(pause) || roster.places[pause] == NONE) {
            return NONE;
        }
        history.keep(roster.places);
        int was = roster.places[pause];
        roster.lift(pause);
        return was;
    }

    public int fill() {
        history.keep(roster.places);
        int filled = 0;
        for (int pause = 0; pause < plan.pauses; pause++) {
            if (roster.places[pause] == NONE) {
                int slot = roster.findBestSlot(pause);
                if (slot != NOTHING_FITS) {
                    roster.moveTo(pause, slot);
                    filled++;
                }
            }
        }
        return filled;
    }

    public int settle() {
        int move = roster.findBestMove();
        if (move == NOTHING_FITS) {
            return NONE;
        }
        history.keep(roster.places);
        int done = 0;
        while (done < MOST_MOVES && move != NOTHING_FITS) {
            roster.moveTo(move / MOVE_BASE, move % MOVE_BASE);
            done++;
            move = roster.findBestMove();
        }
        return done;
    }

    public int undo() {
        if (history.count == 0) {
            return NONE;
        }
        history.bringBack(roster.places);
        roster.recount();
        return history.count;
    }

    private static boolean isSlot(int slot) {
        return slot >= 0 && slot < SLOTS;
    }

    /** Posts and slots lie in one row, since the rows of all posts are walked together. */
    private static int cellOf(int post, int slot) {
        return post * SLOTS + slot;
    }

    /** The bytes that were fed and not yet read. */
    private static final class Tape {
        static final int ROOM = 640;
        static final int FEED = 20;

        private final byte[] bytes;
        int length;

        Tape() {
            bytes = new byte[ROOM];
            length = 0;
        }

        boolean hasRoomForFeed() {
            return length + FEED <= ROOM;
        }

        void append(int four) {
            for (int shift = 24; shift >= 0 && length < ROOM; shift -= 8) {
                bytes[length] = (byte) (four >> shift);
                length++;
            }
        }

        boolean cutTo(int n) {
            if (n < 0 || n > length) {
                return false;
            }
            length = n;
            return true;
        }

        /** NONE behind the end, so that a reader needs no look at the length. */
        int byteAt(int at) {
            return at >= 0 && at < length ? bytes[at] & 255 : NONE;
        }
    }

    /** Posts, needs, shifts and pauses as a text tells them; not where pauses are placed. */
    private static final class Plan {
        int posts;
        int walk;
        int lines;
        int needs;
        int shifts;
        int pauses;
        final int[] need;
        final int[] duty;
        final int[] shiftPost;
        final int[] shiftFrom;
        final int[] shiftTo;
        final int[] shiftPauses;
        final int[] shiftFirst;
        final int[] pauseShift;
        final int[] pauseLong;
        final int[] pauseEarly;
        final int[] pauseLate;

        Plan() {
            posts = 1;
            walk = 1;
            need = new int[MOST_POSTS * SLOTS];
            duty = new int[MOST_POSTS * SLOTS];
            shiftPost = new int[MOST_SHIFTS];
            shiftFrom = new int[MOST_SHIFTS];
            shiftTo = new int[MOST_SHIFTS];
            shiftPauses = new int[MOST_SHIFTS];
            shiftFirst = new int[MOST_SHIFTS];
            pauseShift = new int[MOST_PAUSES];
            pauseLong = new int[MOST_PAUSES];
            pauseEarly = new int[MOST_PAUSES];
            pauseLate = new int[MOST_PAUSES];
        }

        void clear() {
            posts = 1;
            walk = 1;
            lines = 0;
            needs = 0;
            shifts = 0;
            pauses = 0;
            Arrays.fill(need, 0);
            Arrays.fill(duty, 0);
        }

        void become(Plan other) {
            posts = other.posts;
            walk = other.walk;
            lines = other.lines;
            needs = other.needs;
            shifts = other.shifts;
            pauses = other.pauses;
            System.arraycopy(other.need, 0, need, 0, MOST_POSTS * SLOTS);
            System.arraycopy(other.duty, 0, duty, 0, MOST_POSTS * SLOTS);
            System.arraycopy(other.shiftPost, 0, shiftPost, 0, MOST_SHIFTS);
            System.arraycopy(other.shiftFrom, 0, shiftFrom, 0, MOST_SHIFTS);
            System.arraycopy(other.shiftTo, 0, shiftTo, 0, MOST_SHIFTS);
            System.arraycopy(other.shiftPauses, 0, shiftPauses, 0, MOST_SHIFTS);
            System.arraycopy(other.shiftFirst, 0, shiftFirst, 0, MOST_SHIFTS);
            System.arraycopy(other.pauseShift, 0, pauseShift, 0, MOST_PAUSES);
            System.arraycopy(other.pauseLong, 0, pauseLong, 0, MOST_PAUSES);
            System.arraycopy(other.pauseEarly, 0, pauseEarly, 0, MOST_PAUSES);
            System.arraycopy(other.pauseLate, 0, pauseLate, 0, MOST_PAUSES);
        }

        boolean hasPost(int post) {
            return post >= 0 && post < posts;
        }

        boolean hasShift(int shift) {
            return shift >= 0 && shift < shifts;
        }

        boolean hasPause(int pause) {
            return pause >= 0 && pause < pauses;
        }

        boolean hasAllNeeds() {
            return needs >= MOST_NEEDS;
        }

        boolean hasAllShifts() {
            return shifts >= MOST_SHIFTS;
        }

        boolean hasAllPausesOfLatestShift() {
            return shifts == 0 || pauses >= MOST_PAUSES || shiftPauses[shifts - 1] >= MOST_PAUSES_OF_SHIFT;
        }

        void addNeed(int post, int from, int to, int many) {
            needs++;
            addToCells(need, cellOf(post, from), cellOf(post, to), many);
        }

        void addShift(int post, int from, int to) {
            if (hasAllShifts()) {
                return;
            }
            shiftPost[shifts] = post;
            shiftFrom[shifts] = from;
            shiftTo[shifts] = to;
            shiftPauses[shifts] = 0;
            shiftFirst[shifts] = pauses;
            shifts++;
            addToCells(duty, cellOf(post, from), cellOf(post, to), 1);
        }

        void addPause(int length, int early, int late) {
            if (hasAllPausesOfLatestShift()) {
                return;
            }
            pauseShift[pauses] = shifts - 1;
            pauseLong[pauses] = length;
            pauseEarly[pauses] = early;
            pauseLate[pauses] = late;
            shiftPauses[shifts - 1]++;
            pauses++;
        }

        private static void addToCells(int[] cells, int first, int last, int many) {
            for (int cell = first; cell <= last && cell < cells.length; cell++) {
                cells[cell] += many;
            }
        }

        int cellOfPause(int pause, int slot) {
            return cellOf(shiftPost[pauseShift[pause]], slot);
        }

        boolean hasShortPausesAlone(int post) {
            for (int shift = 0; shift < shifts; shift++) {
                if (shiftPost[shift] == post
                        && (shiftPauses[shift] != 1 || pauseLong[shiftFirst[shift]] != 1)) {
                    return false;
                }
            }
            return true;
        }

        /**
         * A pause costs nothing where more are on duty than needed and no other pause uses that up,
         * else one. So as many as can be go to such room; the windows are spans of slots, for which
         * serving slot after slot the pause whose window ends first gives a largest flow.
         */
        int leastShortfallOf(int post) {
            int cost = 0;
            int seated = 0;
            for (int slot = 0; slot < SLOTS; slot++) {
                int room = duty[cellOf(post, slot)] - need[cellOf(post, slot)];
                if (room < 0) {
                    cost -= room;
                }
                for (int seat = 0; seat < room; seat++) {
                    int shift = mostUrgentShift(post, slot, seated);
                    if (shift == NONE) {
                        break;
                    }
                    seated |= 1 << shift;
                }
            }
            for (int shift = 0; shift < shifts; shift++) {
                if (shiftPost[shift] == post && (seated >> shift & 1) == 0) {
                    cost++;
                }
            }
            return cost;
        }

        private int mostUrgentShift(int post, int slot, int seated) {
            int urgent = NONE;
            int urgentLate = SLOTS;
            for (int shift = 0; shift < shifts; shift++) {
                if (shiftPost[shift] == post && (seated >> shift & 1) == 0) {
                    int pause = shiftFirst[shift];
                    int late = pauseLate[pause];
                    if (pauseEarly[pause] <= slot && slot <= late && late < urgentLate) {
                        urgent = shift;
                        urgentLate = late;
                    }
                }
            }
            return urgent;
        }
    }

    /** Reads the tape as a text into a draft, token by token, as far as the first fault. */
    private static final class Reader {
        private static final int MOST_BYTES = 600;
        private static final int MOST_WALK = 4;
        private static final int MOST_MANY = 9;
        private static final int MOST_LONG = 4;

        private static final int NO_TOKEN = 0;
        private static final int WORD = 1;
        private static final int NUMBER = 2;
        private static final int SIGN = 3;
        private static final int TAPE_END = 4;

        private static final int CANNOT_COME = 1;
        private static final int WRONG_NUMBER = 2;
        private static final int ONE_TOO_MANY = 3;

        private static final int AT_HEAD = 0;
        private static final int AT_NEEDS = 1;
        private static final int AT_SHIFTS = 2;
        private static final int AT_PAUSES = 3;
        private static final int AT_SIGN = 4;
        private static final int FIRST_AT_NUMBER = 5;
        private static final int AT_POSTS = 5;
        private static final int AT_WALK = 6;
        private static final int AT_POST = 7;
        private static final int AT_FROM = 8;
        private static final int AT_TO = 9;
        private static final int AT_MANY = 10;
        private static final int AT_LONG = 11;
        private static final int AT_EARLY = 12;
        private static final int AT_LATE = 13;

        private final Tape tape;
        private final Plan draft;
        int faultKind;
        private int tokenKind;
        private int tokenStart;
        private int tokenEnd;
        private int state;
        private boolean inShift;
        private int post;
        private int from;
        private int to;
        private int length;
        private int early;

        Reader(Tape tape, Plan draft) {
            this.tape = tape;
            this.draft = draft;
        }

        /** The place of the first fault, its kind in faultKind; NONE: there is none. */
        int readAll() {
            draft.clear();
            state = AT_HEAD;
            inShift = false;
            tokenEnd = 0;
            for (int tokens = 0; tokens <= Tape.ROOM; tokens++) {
                findToken();
                if (tokenKind == TAPE_END || tokenStart >= MOST_BYTES) {
                    break;
                }
                faultKind = acceptToken();
                if (faultKind != 0) {
                    return tokenStart;
                }
            }
            return closeText();
        }

        private int closeText() {
            faultKind = CANNOT_COME;
            if (tape.length > MOST_BYTES) {
                return MOST_BYTES;
            }
            if (state != AT_NEEDS && state != AT_SHIFTS) {
                return tape.length;
            }
            faultKind = 0;
            return NONE;
        }

        private void findToken() {
            tokenStart = endOfBlanks(tokenEnd);
            tokenEnd = tokenStart + 1;
            int first = tape.byteAt(tokenStart);
            if (first == NONE) {
                tokenKind = TAPE_END;
            } else if (first == ';') {
                tokenKind = SIGN;
            } else if (isLetter(first) || isDigit(first)) {
                tokenEnd = endOfRun(tokenEnd);
                tokenKind = kindOfRun();
            } else {
                tokenKind = NO_TOKEN;
            }
        }

        private int endOfBlanks(int start) {
            int at = start;
            while (at < tape.length && isBlank(tape.byteAt(at))) {
                at++;
            }
            return at;
        }

        private int endOfRun(int start) {
            int at = start;
            while (at < tape.length && (isLetter(tape.byteAt(at)) || isDigit(tape.byteAt(at)))) {
                at++;
            }
            return at;
        }

        private int kindOfRun() {
            int digits = 0;
            for (int at = tokenStart; at < tokenEnd; at++) {
                if (isDigit(tape.byteAt(at))) {
                    digits++;
                }
            }
            if (digits == 0) {
                return WORD;
            }
            return digits == tokenEnd - tokenStart && digits <= 2 ? NUMBER : NO_TOKEN;
        }

        private static boolean isBlank(int sign) {
            return sign == 32 || sign == 10;
        }

        private static boolean isLetter(int sign) {
            return sign >= 'a' && sign <= 'z';
        }

        private static boolean isDigit(int sign) {
            return sign >= '0' && sign <= '9';
        }

        private boolean isToken(String word) {
            if (word.length() != tokenEnd - tokenStart) {
                return false;
            }
            for (int i = 0; i < word.length(); i++) {
                if (tape.byteAt(tokenStart + i) != word.charAt(i)) {
                    return false;
                }
            }
            return true;
        }

        private int numberOfToken() {
            int number = 0;
            for (int at = tokenStart; at < tokenEnd; at++) {
                number = number * 10 + tape.byteAt(at) - '0';
            }
            return number;
        }

        private int acceptToken() {
            switch (tokenKind) {
                case WORD:
                    return acceptWord();
                case NUMBER:
                    return acceptNumber(numberOfToken());
                case SIGN:
                    return acceptSign();
                default:
                    return CANNOT_COME;
            }
        }

        private int acceptWord() {
            if (state == AT_HEAD && isToken("posts")) {
                state = AT_POSTS;
                return 0;
            }
            if (state == AT_NEEDS && isToken("need")) {
                return beginPart(draft.hasAllNeeds(), AT_POST);
            }
            if ((state == AT_NEEDS || state == AT_SHIFTS) && isToken("shift")) {
                inShift = true;
                return beginPart(draft.hasAllShifts(), AT_POST);
            }
            if (state == AT_PAUSES && isToken("pause")) {
                return beginPart(draft.hasAllPausesOfLatestShift(), AT_LONG);
            }
            return CANNOT_COME;
        }

        private int beginPart(boolean isFull, int next) {
            state = next;
            return isFull ? ONE_TOO_MANY : 0;
        }

        private int acceptSign() {
            if (state != AT_SIGN && state != AT_PAUSES) {
                return CANNOT_COME;
            }
            draft.lines++;
            state = inShift ? AT_SHIFTS : AT_NEEDS;
            return 0;
        }

        private int acceptNumber(int number) {
            if (state < FIRST_AT_NUMBER) {
                return CANNOT_COME;
            }
            if (number < lowestNumber() || number > highestNumber()) {
                return WRONG_NUMBER;
            }
            keepNumber(number);
            return 0;
        }

        private int lowestNumber() {
            switch (state) {
                case AT_POSTS:
                case AT_WALK:
                case AT_LONG:
                    return 1;
                case AT_TO:
                case AT_EARLY:
                    return from;
                case AT_LATE:
                    return early;
                default:
                    return 0;
            }
        }

        private int highestNumber() {
            switch (state) {
                case AT_POSTS:
                    return MOST_POSTS;
                case AT_WALK:
                    return MOST_WALK;
                case AT_POST:
                    return draft.posts - 1;
                case AT_MANY:
                    return MOST_MANY;
                case AT_LONG:
                    return MOST_LONG;
                case AT_EARLY:
                    return to;
                case AT_LATE:
                    return to - length + 1;
                default:
                    return SLOTS - 1;
            }
        }

        private void keepNumber(int number) {
            switch (state) {
                case AT_POSTS:
                    draft.posts = number;
                    state = AT_WALK;
                    break;
                case AT_WALK:
                    draft.walk = number;
                    state = AT_SIGN;
                    break;
                case AT_POST:
                    post = number;
                    state = AT_FROM;
                    break;
                case AT_FROM:
                    from = number;
                    state = AT_TO;
                    break;
                case AT_TO:
                    to = number;
                    state = inShift ? AT_PAUSES : AT_MANY;
                    if (inShift) {
                        draft.addShift(post, from, to);
                    }
                    break;
                case AT_MANY:
                    draft.addNeed(post, from, to, number);
                    state = AT_SIGN;
                    break;
                case AT_LONG:
                    length = number;
                    state = AT_EARLY;
                    break;
                case AT_EARLY:
                    early = number;
                    state = AT_LATE;
                    break;
                default:
                    draft.addPause(length, early, number);
                    state = AT_PAUSES;
                    break;
            }
        }
    }

    /** Where the pauses are, and the cover and shortfall that follow from it. */
    private static final class Roster {
        private static final int OUT_OF_WINDOW = 1;
        private static final int TOUCHES_ANOTHER = 2;

        private final Plan plan;
        final int[] places;
        final int[] cover;
        int shortfall;

        Roster(Plan plan) {
            this.plan = plan;
            places = new int[MOST_PAUSES];
            cover = new int[MOST_POSTS * SLOTS];
            Arrays.fill(places, NONE);
        }

        void clear() {
            Arrays.fill(places, NONE);
            recount();
        }

        /** For places that were changed from outside: all else is made anew from them. */
        void recount() {
            System.arraycopy(plan.duty, 0, cover, 0, MOST_POSTS * SLOTS);
            shortfall = 0;
            for (int cell = 0; cell < MOST_POSTS * SLOTS; cell++) {
                shortfall += shortOf(cell);
            }
            for (int pause = 0; pause < plan.pauses; pause++) {
                if (places[pause] != NONE) {
                    leavePost(pause, places[pause]);
                }
            }
        }

        int shortOf(int cell) {
            return Math.max(plan.need[cell] - cover[cell], 0);
        }

        int countPlaced() {
            int placed = 0;
            for (int pause = 0; pause < plan.pauses; pause++) {
                if (places[pause] != NONE) {
                    placed++;
                }
            }
            return placed;
        }

        void moveTo(int pause, int slot) {
            lift(pause);
            leavePost(pause, slot);
            places[pause] = slot;
        }

        void lift(int pause) {
            if (places[pause] == NONE) {
                return;
            }
            shortfall = shortfallWithout(pause);
            int first = plan.cellOfPause(pause, places[pause]);
            for (int cell = first; cell < first + plan.pauseLong[pause]; cell++) {
                cover[cell]++;
            }
            places[pause] = NONE;
        }

        private void leavePost(int pause, int slot) {
            int first = plan.cellOfPause(pause, slot);
            for (int cell = first; cell < first + plan.pauseLong[pause]; cell++) {
                if (plan.need[cell] >= cover[cell]) {
                    shortfall++;
                }
                cover[cell]--;
            }
        }

        int reasonAgainst(int pause, int slot) {
            if (slot < plan.pauseEarly[pause] || slot > plan.pauseLate[pause]) {
                return OUT_OF_WINDOW;
            }
            int shift = plan.pauseShift[pause];
            int first = plan.shiftFirst[shift];
            for (int other = first; other < first + plan.shiftPauses[shift]; other++) {
                if (other != pause && touches(other, slot, slot + plan.pauseLong[pause])) {
                    return TOUCHES_ANOTHER;
                }
            }
            return 0;
        }

        /** Whether a placed pause shares or borders the slots from start to ahead of end. */
        private boolean touches(int pause, int start, int end) {
            int place = places[pause];
            return place != NONE && start <= place + plan.pauseLong[pause] && place <= end;
        }

        int shortfallWithout(int pause) {
            int place = places[pause];
            if (place == NONE) {
                return shortfall;
            }
            int first = plan.cellOfPause(pause, place);
            int without = shortfall;
            for (int cell = first; cell < first + plan.pauseLong[pause]; cell++) {
                if (plan.need[cell] > cover[cell]) {
                    without--;
                }
            }
            return without;
        }

        /** By how much a pause at a slot raises the shortfall that there is without it. */
        int lossAt(int pause, int slot) {
            int length = plan.pauseLong[pause];
            int first = plan.cellOfPause(pause, slot);
            int place = places[pause];
            int own = place == NONE ? NONE : plan.cellOfPause(pause, place);
            int loss = 0;
            for (int cell = first; cell < first + length; cell++) {
                boolean isAwayNow = own != NONE && cell >= own && cell < own + length;
                if (plan.need[cell] >= cover[cell] + (isAwayNow ? 1 : 0)) {
                    loss++;
                }
            }
            return loss;
        }

        int findBestSlot(int pause) {
            int best = NOTHING_FITS;
            int leastLoss = 0;
            for (int slot = plan.pauseEarly[pause]; slot <= plan.pauseLate[pause]; slot++) {
                if (reasonAgainst(pause, slot) == 0) {
                    int loss = lossAt(pause, slot);
                    if (best == NOTHING_FITS || loss < leastLoss) {
                        best = slot;
                        leastLoss = loss;
                    }
                }
            }
            return best;
        }

        /** A best move of a placed pause goes to its best slot, so only those are weighed. */
        int findBestMove() {
            int move = NOTHING_FITS;
            int least = shortfall;
            for (int pause = 0; pause < plan.pauses; pause++) {
                int slot = places[pause] == NONE ? NOTHING_FITS : findBestSlot(pause);
                if (slot != NOTHING_FITS) {
                    int after = shortfallWithout(pause) + lossAt(pause, slot);
                    if (after < least) {
                        move = pause * MOVE_BASE + slot;
                        least = after;
                    }
                }
            }
            return move;
        }

        int findWorstSlot() {
            int worst = NONE;
            int most = 0;
            for (int slot = 0; slot < SLOTS; slot++) {
                int together = 0;
                for (int post = 0; post < plan.posts; post++) {
                    together += shortOf(cellOf(post, slot));
                }
                if (together > most) {
                    worst = slot;
                    most = together;
                }
            }
            return worst;
        }
    }

    /** The ways of a relief between posts. */
    private static final class Walker {
        private static final int WALKING = 9;

        private final Plan plan;
        private final Roster roster;
        private final int[] help;
        private final int[] next;

        Walker(Plan plan, Roster roster) {
            this.plan = plan;
            this.roster = roster;
            help = new int[MOST_POSTS * SLOTS];
            next = new int[MOST_POSTS * SLOTS];
        }

        /**
         * From the last slot to the first: the most slots helped in from there on, and where to.
         * Of like ways one that stays is the least row. Of like ways that walk, to the least post:
         * where walking is more than staying, nobody walks on at once, or staying would be as much.
         */
        void plotWays() {
            for (int slot = SLOTS - 1; slot >= 0; slot--) {
                for (int post = 0; post < plan.posts; post++) {
                    int cell = cellOf(post, slot);
                    int helpsNow = roster.shortOf(cell) > 0 ? 1 : 0;
                    help[cell] = helpsNow + helpAt(post, slot + 1);
                    next[cell] = post;
                    for (int other = 0; other < plan.posts; other++) {
                        int helpThere = helpAt(other, slot + plan.walk);
                        if (other != post && helpThere > help[cell]) {
                            help[cell] = helpThere;
                            next[cell] = other;
                        }
                    }
                }
            }
        }

        private int helpAt(int post, int slot) {
            return isSlot(slot) ? help[cellOf(post, slot)] : 0;
        }

        int helpFrom(int post) {
            return help[cellOf(post, 0)];
        }

        int postOnWay(int post, int wanted) {
            int at = post;
            int arrival = 0;
            for (int slot = 0; slot <= wanted && slot < SLOTS; slot++) {
                int to = next[cellOf(at, slot)];
                if (slot >= arrival && to != at) {
                    at = to;
                    arrival = slot + plan.walk;
                }
            }
            return wanted < arrival ? WALKING : at;
        }
    }

    /** Where pauses were ahead of the latest acts. */
    private static final class History {
        private final int[] rows;
        private int nextRow;
        int count;

        History() {
            rows = new int[MOST_ACTS * MOST_PAUSES];
        }

        void clear() {
            count = 0;
        }

        void keep(int[] places) {
            System.arraycopy(places, 0, rows, nextRow * MOST_PAUSES, MOST_PAUSES);
            nextRow = nextRow == MOST_ACTS - 1 ? 0 : nextRow + 1;
            count = Math.min(count + 1, MOST_ACTS);
        }

        void bringBack(int[] places) {
            nextRow = nextRow == 0 ? MOST_ACTS - 1 : nextRow - 1;
            count--;
            System.arraycopy(rows, nextRow * MOST_PAUSES, places, 0, MOST_PAUSES);
        }
    }
}
