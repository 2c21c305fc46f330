import java.util.Arrays;

/** Blows specks out of what falls; ../shared/DOC.md says what each call promises. */
public final class SpeckValves {
    public static final int BAD = -1, NO = -2, FULL = -3, NONE = -4, ZERO = 10000;

    private static final int MOST_LETTERS = 200;
    private static final int FEWEST_CELLS = 4;
    private static final int MOST_CELLS = 16;
    private static final int MOST_RULES = 4;
    private static final int MOST_NUMBER = 99;
    private static final int MOST_LINES = 60;
    private static final int MOST_UNDONE = 6;
    private static final int ENDED_ENOUGH = 24;
    // 23 may have ENDED when a LINE is seen, and no LINE ends more than every second CELL.
    private static final int MOST_ENDED = ENDED_ENOUGH - 1 + MOST_CELLS / 2;
    // Until they are joined, every second CELL of the LINE ahead and of the LINE seen may have its own.
    private static final int MOST_LIVE = MOST_CELLS;
    private static final int NOBODY = -1;

    private static final int KIND_MEAN = 0;
    private static final int KIND_DARK = 1;
    private static final int KIND_SIZE = 2;
    private static final int KIND_TALL = 3;

    private static final int COUNT_BAD = 5;
    private static final int COUNT_LATE = 6;
    private static final int COUNT_BLOWN = 7;
    private static final int COUNT_LET = 8;
    private static final int COUNT_LOST = 9;

    private final Text text = new Text();
    private final Stand stand = new Stand();
    private final History history = new History();
    private final Fold fold = new Fold();
    private final Verdict verdict = new Verdict();
    private final Verdict trial = new Verdict();
    private final int[] trialNumbers = new int[MOST_RULES];
    private Plan laid = new Plan();
    private Plan draft = new Plan();

    public SpeckValves() {
        draft.addRule(KIND_MEAN, 5);
        draft.addRule(KIND_DARK, 2);
        layDraft();
    }

    // ---- told

    public int write(int letter) {
        if (letter < 32 || letter > 126) {
            return BAD;
        }
        if (text.length >= MOST_LETTERS) {
            return FULL;
        }
        text.append((char) letter);
        return text.length;
    }

    public int wipe() {
        int was = text.length;
        text.length = 0;
        return was;
    }

    public int fault() {
        return text.readInto(draft);
    }

    public int lay() {
        if (text.readInto(draft) != NONE || draft.ruleCount == 0) {
            return NO;
        }
        layDraft();
        return laid.width;
    }

    // ---- seen

    public int see(long line) {
        if (line < 0 || line >= laid.lineBound()) {
            return BAD;
        }
        if (stand.lineCount >= MOST_LINES || fold.endedCount >= ENDED_ENOUGH) {
            return FULL;
        }
        history.keep(stand);
        int tick = stand.lineCount;
        stand.addLine(line);
        int endedNow = fold.addLine(laid, line, tick);
        judge();
        return endedNow;
    }

    public int rule(int k, int v) {
        if (!isRule(k) || v < 1 || v > MOST_NUMBER) {
            return BAD;
        }
        int was = stand.numbers[k];
        if (was == v) {
            return NO;
        }
        history.keep(stand);
        stand.numbers[k] = v;
        judge();
        return was;
    }

    public int clear() {
        if (stand.lineCount == 0) {
            return NO;
        }
        int was = stand.lineCount;
        history.keep(stand);
        dropLines();
        return was;
    }

    public int undo() {
        if (history.held == 0) {
            return NO;
        }
        history.giveBack(stand);
        foldAll();
        return history.held;
    }

    // ---- blobs

    public int blob(int b, int what) {
        if (b < 0 || b >= fold.endedCount || b >= fold.ended.length) {
            return BAD;
        }
        Blob asked = fold.ended[b];
        switch (what) {
            case 0: return asked.first;
            case 1: return asked.last;
            case 2: return asked.left;
            case 3: return asked.right;
            case 4: return asked.size;
            case 5: return asked.mean();
            case 6: return asked.dark;
            case 7: return verdict.badBy[b];
            case 8: return asFlag(verdict.isBad(b) && laid.isLate(asked));
            case 9: return asFlag(verdict.blown[b]);
            default: return BAD;
        }
    }

    public int open(int what) {
        switch (what) {
            case 0: return fold.liveBlobs();
            case 1: return fold.liveCells();
            default: return BAD;
        }
    }

    // ---- valves

    public int opening(int j, int k, int what) {
        if (!isValve(j) || k < -1 || what < 0 || what > 1) {
            return BAD;
        }
        Valve asked = verdict.valves[j];
        if (k == -1) {
            return asked.openings;
        }
        if (k >= asked.openings || k >= asked.firsts.length) {
            return NONE;
        }
        return what == 0 ? asked.firsts[k] : asked.lasts[k];
    }

    public int air(int j) {
        return isValve(j) ? verdict.valves[j].ticksOpen() : BAD;
    }

    // ---- worth

    public int gain() {
        return verdict.worth(fold) + ZERO;
    }

    public int best(int k, int what) {
        if (!isRule(k) || what < 0 || what > 1) {
            return BAD;
        }
        System.arraycopy(stand.numbers, 0, trialNumbers, 0, MOST_RULES);
        int bestNumber = 1;
        int most = worthByNumber(k, 1);
        for (int number = 2; number <= MOST_NUMBER; number++) {
            // Where no BLOB has just one less, this NUMBER judges all as the NUMBER ahead of it does.
            if (fold.hasEndedWith(laid.kinds[k], number - 1)) {
                int worth = worthByNumber(k, number);
                if (worth > most) {
                    most = worth;
                    bestNumber = number;
                }
            }
        }
        return what == 0 ? bestNumber : most + ZERO;
    }

    public int count(int what) {
        switch (what) {
            case 0: return laid.width;
            case 1: return laid.valveCount;
            case 2: return laid.ruleCount;
            case 3: return stand.lineCount;
            case 4: return fold.endedCount;
            case COUNT_BAD:
            case COUNT_LATE:
            case COUNT_BLOWN:
            case COUNT_LET:
            case COUNT_LOST: return verdict.howMany(laid, fold, what);
            case 10: return history.held;
            case 11: return text.length;
            default: return BAD;
        }
    }

    public int told(int k, int what) {
        if (!isRule(k)) {
            return BAD;
        }
        switch (what) {
            case 0: return laid.kinds[k];
            case 1: return stand.numbers[k];
            case 2: return verdict.howManyBadBy(fold, k);
            default: return BAD;
        }
    }

    private boolean isRule(int k) {
        return k >= 0 && k < laid.ruleCount && k < MOST_RULES;
    }

    private boolean isValve(int j) {
        return j >= 0 && j < laid.valveCount && j < MOST_CELLS;
    }

    private static int asFlag(boolean holds) {
        return holds ? 1 : 0;
    }

    private void layDraft() {
        Plan spare = laid;
        laid = draft;
        draft = spare;
        System.arraycopy(laid.numbers, 0, stand.numbers, 0, MOST_RULES);
        history.forget();
        dropLines();
    }

    private void dropLines() {
        stand.lineCount = 0;
        fold.empty();
        verdict.closeAll();
    }

    private void foldAll() {
        fold.empty();
        for (int tick = 0; tick < stand.lineCount && tick < MOST_LINES; tick++) {
            fold.addLine(laid, stand.lines[tick], tick);
        }
        judge();
    }

    private void judge() {
        verdict.judgeAll(laid, stand.numbers, fold);
    }

    private int worthByNumber(int k, int number) {
        if (k < 0 || k >= MOST_RULES) {
            return 0;
        }
        trialNumbers[k] = number;
        trial.judgeAll(laid, trialNumbers, fold);
        return trial.worth(fold);
    }

    /** THE TEXT, and how it is read. */
    private static final class Text {
        private final char[] letters = new char[MOST_LETTERS];
        private final int[] values = new int[5];
        private int length;
        private int at;

        void append(char letter) {
            if (length < letters.length) {
                letters[length] = letter;
                length++;
            }
        }

        /** Answers FAULT, or NONE. */
        int readInto(Plan plan) {
            plan.reset();
            at = 0;
            // An ITEM takes a letter at least, so there are no more of them than letters.
            for (int items = 0; items < MOST_LETTERS && at < length; items++) {
                int start = at;
                if (!readItem(plan)) {
                    return start;
                }
            }
            return NONE;
        }

        private boolean readItem(Plan plan) {
            char letter = letterHere();
            at++;
            int wanted = numbersBehind(letter);
            if (wanted == 0) {
                return false;
            }
            for (int i = 0; i < wanted && i < values.length; i++) {
                values[i] = readNumber(i + 1 < wanted ? ',' : ';');
                if (values[i] < 0) {
                    return false;
                }
            }
            return plan.takeItem(letter, values);
        }

        private static int numbersBehind(char letter) {
            switch (letter) {
                case 'g': return 5;
                case 'r': return 2;
                case 'd':
                case 'q': return 1;
                default: return 0;
            }
        }

        /** Answers -1, if there are not one or two figures with that letter behind them. */
        private int readNumber(char behind) {
            int value = 0;
            int figures = 0;
            while (figures < 2 && isFigure(letterHere())) {
                value = value * 10 + (letterHere() - '0');
                at++;
                figures++;
            }
            if (figures == 0 || letterHere() != behind) {
                return -1;
            }
            at++;
            return value;
        }

        /** Behind THE TEXT stands a letter that fits nowhere. */
        private char letterHere() {
            return at >= 0 && at < length && at < letters.length ? letters[at] : (char) 0;
        }

        private static boolean isFigure(char letter) {
            return letter >= '0' && letter <= '9';
        }
    }

    /** What a TEXT lays. */
    private static final class Plan {
        private final int[] kinds = new int[MOST_RULES];
        private final int[] numbers = new int[MOST_RULES];
        private int ruleCount;
        private int width;
        private int valveCount;
        private int fall;
        private int ahead;
        private int behind;
        private int darkFrom;
        private int rest;

        Plan() {
            reset();
        }

        void reset() {
            ruleCount = 0;
            width = 8;
            valveCount = 4;
            fall = 6;
            ahead = 1;
            behind = 1;
            darkFrom = 7;
            rest = 2;
        }

        boolean takeItem(char letter, int[] values) {
            if (values.length < 5) {
                return false;
            }
            switch (letter) {
                case 'g': return takeGrid(values);
                case 'r': return addRule(values[0], values[1]);
                case 'd': return takeDark(values[0]);
                case 'q': return takeRest(values[0]);
                default: return false;
            }
        }

        private boolean takeGrid(int[] values) {
            if (values.length < 5 || !isBetween(values[0], FEWEST_CELLS, MOST_CELLS)) {
                return false;
            }
            if (values[1] < 1 || values[0] % values[1] != 0) {
                return false;
            }
            if (!isBetween(values[2], 0, 20) || !isBetween(values[3], 0, 5) || !isBetween(values[4], 0, 5)) {
                return false;
            }
            width = values[0];
            valveCount = values[1];
            fall = values[2];
            ahead = values[3];
            behind = values[4];
            return true;
        }

        boolean addRule(int kind, int number) {
            if (ruleCount >= MOST_RULES || !isBetween(kind, KIND_MEAN, KIND_TALL)
                    || !isBetween(number, 1, MOST_NUMBER)) {
                return false;
            }
            kinds[ruleCount] = kind;
            numbers[ruleCount] = number;
            ruleCount++;
            return true;
        }

        private boolean takeDark(int colour) {
            if (!isBetween(colour, 1, 9)) {
                return false;
            }
            darkFrom = colour;
            return true;
        }

        private boolean takeRest(int ticks) {
            if (!isBetween(ticks, 0, 9)) {
                return false;
            }
            rest = ticks;
            return true;
        }

        private static boolean isBetween(int value, int least, int most) {
            return value >= least && value <= most;
        }

        /** The least number that has more figures than a LINE has CELLS. */
        long lineBound() {
            long bound = 1;
            for (int cell = 0; cell < width; cell++) {
                bound *= 10;
            }
            return bound;
        }

        int valveOver(int cell) {
            int cellsEach = valveCount > 0 ? width / valveCount : 0;
            return cellsEach > 0 ? cell / cellsEach : 0;
        }

        int wantedFrom(Blob bad) {
            return bad.first + fall - ahead;
        }

        int wantedTo(Blob bad) {
            return bad.last + fall + behind;
        }

        boolean isLate(Blob bad) {
            return wantedFrom(bad) < bad.endTick();
        }
    }

    /** All that a change changes: LINES that are seen, and NUMBERS of RULES as they are now. */
    private static final class Stand {
        private final long[] lines = new long[MOST_LINES];
        private final int[] numbers = new int[MOST_RULES];
        private int lineCount;

        void addLine(long line) {
            if (lineCount >= 0 && lineCount < lines.length) {
                lines[lineCount] = line;
                lineCount++;
            }
        }

        void copyFrom(Stand other) {
            System.arraycopy(other.lines, 0, lines, 0, MOST_LINES);
            System.arraycopy(other.numbers, 0, numbers, 0, MOST_RULES);
            lineCount = other.lineCount;
        }
    }

    /** How things stood ahead of each of the latest changes, in a ring. */
    private static final class History {
        private final Stand[] ring = new Stand[MOST_UNDONE];
        private int held;
        private int next;

        History() {
            for (int i = 0; i < ring.length; i++) {
                ring[i] = new Stand();
            }
        }

        void keep(Stand stand) {
            if (next < 0 || next >= ring.length) {
                return;
            }
            ring[next].copyFrom(stand);
            next = next + 1 < MOST_UNDONE ? next + 1 : 0;
            held = Math.min(held + 1, MOST_UNDONE);
        }

        void giveBack(Stand stand) {
            int latest = next > 0 ? next - 1 : MOST_UNDONE - 1;
            if (held == 0 || latest >= ring.length) {
                return;
            }
            stand.copyFrom(ring[latest]);
            next = latest;
            held--;
        }

        void forget() {
            held = 0;
        }
    }

    /** A BLOB; one without CELLS is free to be used. */
    private static final class Blob {
        private int first;
        private int last;
        private int beganAt;
        private int left;
        private int right;
        private int size;
        private int colours;
        private int dark;

        /** CELLS of a LINE come from the lowest on, so it BEGAN at the first that comes. */
        void addCell(int tick, int cell, int colour, boolean isDark) {
            if (size == 0) {
                beginAt(tick, cell);
            }
            last = Math.max(last, tick);
            left = Math.min(left, cell);
            right = Math.max(right, cell);
            size++;
            colours += colour;
            dark += isDark ? 1 : 0;
        }

        private void beginAt(int tick, int cell) {
            first = tick;
            last = tick;
            beganAt = cell;
            left = cell;
            right = cell;
            colours = 0;
            dark = 0;
        }

        void absorb(Blob other) {
            if (other.beganBefore(this)) {
                first = other.first;
                beganAt = other.beganAt;
            }
            last = Math.max(last, other.last);
            left = Math.min(left, other.left);
            right = Math.max(right, other.right);
            size += other.size;
            colours += other.colours;
            dark += other.dark;
            other.size = 0;
        }

        void copyFrom(Blob other) {
            first = other.first;
            last = other.last;
            beganAt = other.beganAt;
            left = other.left;
            right = other.right;
            size = other.size;
            colours = other.colours;
            dark = other.dark;
        }

        boolean beganBefore(Blob other) {
            return first < other.first || first == other.first && beganAt < other.beganAt;
        }

        int endTick() {
            return last + 1;
        }

        int mean() {
            return size > 0 ? colours / size : 0;
        }

        int measure(int kind) {
            switch (kind) {
                case KIND_MEAN: return mean();
                case KIND_DARK: return dark;
                case KIND_SIZE: return size;
                default: return last - first + 1;
            }
        }

        int worth() {
            return dark == 0 ? size : -3 * dark;
        }
    }

    /** LINES folded to BLOBS as they fall. */
    private static final class Fold {
        private final Blob[] ended = new Blob[MOST_ENDED];
        private final Blob[] live = new Blob[MOST_LIVE];
        private int[] ownersAhead = new int[MOST_CELLS];
        private int[] ownersNow = new int[MOST_CELLS];
        private int endedCount;

        Fold() {
            for (int i = 0; i < ended.length; i++) {
                ended[i] = new Blob();
            }
            for (int i = 0; i < live.length; i++) {
                live[i] = new Blob();
            }
        }

        void empty() {
            endedCount = 0;
            for (int slot = 0; slot < live.length; slot++) {
                live[slot].size = 0;
            }
            Arrays.fill(ownersAhead, NOBODY);
        }

        /** Answers how many ENDED by it. */
        int addLine(Plan plan, long line, int tick) {
            Arrays.fill(ownersNow, NOBODY);
            long unit = plan.lineBound();
            for (int cell = 0; cell < plan.width; cell++) {
                unit /= 10;
                int colour = unit > 0 ? (int) (line / unit % 10) : 0;
                if (colour > 0) {
                    addCell(tick, cell, colour, colour >= plan.darkFrom);
                }
            }
            int[] spare = ownersAhead;
            ownersAhead = ownersNow;
            ownersNow = spare;
            return endAllWithout(tick);
        }

        private void addCell(int tick, int cell, int colour, boolean isDark) {
            int slot = ownerAt(ownersNow, cell - 1);
            if (slot == NOBODY) {
                slot = freeSlot();
            }
            if (slot < 0 || slot >= live.length || cell < 0 || cell >= ownersNow.length) {
                return;
            }
            ownersNow[cell] = slot;
            live[slot].addCell(tick, cell, colour, isDark);
            for (int near = cell - 1; near <= cell + 1; near++) {
                joinTo(slot, ownerAt(ownersAhead, near));
            }
        }

        private static int ownerAt(int[] owners, int cell) {
            return cell >= 0 && cell < owners.length ? owners[cell] : NOBODY;
        }

        private int freeSlot() {
            for (int slot = 0; slot < live.length; slot++) {
                if (live[slot].size == 0) {
                    return slot;
                }
            }
            return NOBODY;
        }

        private void joinTo(int slot, int other) {
            if (other < 0 || other >= live.length || other == slot || slot < 0 || slot >= live.length) {
                return;
            }
            live[slot].absorb(live[other]);
            handOver(ownersAhead, other, slot);
            handOver(ownersNow, other, slot);
        }

        private static void handOver(int[] owners, int from, int to) {
            for (int cell = 0; cell < owners.length; cell++) {
                if (owners[cell] == from) {
                    owners[cell] = to;
                }
            }
        }

        private int endAllWithout(int tick) {
            int before = endedCount;
            for (int i = 0; i < live.length; i++) {
                int slot = earliestWithout(tick);
                if (slot < 0 || slot >= live.length || endedCount >= ended.length) {
                    break;
                }
                ended[endedCount].copyFrom(live[slot]);
                endedCount++;
                live[slot].size = 0;
            }
            return endedCount - before;
        }

        private int earliestWithout(int tick) {
            int earliest = NOBODY;
            for (int slot = 0; slot < live.length; slot++) {
                boolean isGone = live[slot].size > 0 && live[slot].last < tick;
                if (isGone && (earliest == NOBODY || live[slot].beganBefore(live[earliest]))) {
                    earliest = slot;
                }
            }
            return earliest;
        }

        int liveBlobs() {
            int blobs = 0;
            for (int slot = 0; slot < live.length; slot++) {
                blobs += live[slot].size > 0 ? 1 : 0;
            }
            return blobs;
        }

        int liveCells() {
            int cells = 0;
            for (int slot = 0; slot < live.length; slot++) {
                cells += live[slot].size;
            }
            return cells;
        }

        boolean hasEndedWith(int kind, int measured) {
            for (int b = 0; b < endedCount && b < ended.length; b++) {
                if (ended[b].measure(kind) == measured) {
                    return true;
                }
            }
            return false;
        }
    }

    /** OPENINGS of a VALVE, the earliest first. */
    private static final class Valve {
        private final int[] firsts = new int[MOST_ENDED];
        private final int[] lasts = new int[MOST_ENDED];
        private int openings;

        /** No call may want less far than a call ahead of it did: so only the last OPENINGS can be near. */
        void want(int from, int to, int rest) {
            int first = from;
            while (openings > 0 && openings <= lasts.length && isNear(lasts[openings - 1], first, rest)) {
                openings--;
                first = Math.min(first, firsts[openings]);
            }
            if (openings >= 0 && openings < firsts.length) {
                firsts[openings] = first;
                lasts[openings] = to;
                openings++;
            }
        }

        private static boolean isNear(int last, int first, int rest) {
            int ticksBetween = first - last - 1;
            return ticksBetween <= 0 || ticksBetween < rest;
        }

        boolean isOpenWithin(int from, int to) {
            for (int k = 0; k < openings && k < firsts.length; k++) {
                if (firsts[k] <= to && lasts[k] >= from) {
                    return true;
                }
            }
            return false;
        }

        int ticksOpen() {
            int ticks = 0;
            for (int k = 0; k < openings && k < firsts.length; k++) {
                ticks += lasts[k] - firsts[k] + 1;
            }
            return ticks;
        }
    }

    /** What RULES with some NUMBERS make of all that ENDED. */
    private static final class Verdict {
        private final int[] badBy = new int[MOST_ENDED];
        private final boolean[] blown = new boolean[MOST_ENDED];
        private final Valve[] valves = new Valve[MOST_CELLS];

        Verdict() {
            for (int j = 0; j < valves.length; j++) {
                valves[j] = new Valve();
            }
        }

        void closeAll() {
            for (int j = 0; j < valves.length; j++) {
                valves[j].openings = 0;
            }
        }

        void judgeAll(Plan plan, int[] numbers, Fold fold) {
            closeAll();
            for (int b = 0; b < endedOf(fold); b++) {
                badBy[b] = firstRuleFor(plan, numbers, fold.ended[b]);
                if (isBad(b)) {
                    openFor(plan, fold.ended[b]);
                }
            }
            for (int b = 0; b < endedOf(fold); b++) {
                blown[b] = isBlown(plan, fold.ended[b]);
            }
        }

        private static int endedOf(Fold fold) {
            return Math.min(fold.endedCount, MOST_ENDED);
        }

        private static int firstRuleFor(Plan plan, int[] numbers, Blob blob) {
            for (int k = 0; k < plan.ruleCount && k < numbers.length && k < plan.kinds.length; k++) {
                if (blob.measure(plan.kinds[k]) >= numbers[k]) {
                    return k;
                }
            }
            return NONE;
        }

        private void openFor(Plan plan, Blob bad) {
            int to = plan.wantedTo(bad);
            if (to < bad.endTick()) {
                return;
            }
            int from = Math.max(plan.wantedFrom(bad), bad.endTick());
            int lastValve = Math.min(plan.valveOver(bad.right), MOST_CELLS - 1);
            for (int j = Math.max(plan.valveOver(bad.left), 0); j <= lastValve; j++) {
                valves[j].want(from, to, plan.rest);
            }
        }

        private boolean isBlown(Plan plan, Blob blob) {
            int lastValve = Math.min(plan.valveOver(blob.right), MOST_CELLS - 1);
            for (int j = Math.max(plan.valveOver(blob.left), 0); j <= lastValve; j++) {
                if (valves[j].isOpenWithin(blob.first + plan.fall, blob.last + plan.fall)) {
                    return true;
                }
            }
            return false;
        }

        boolean isBad(int b) {
            return b >= 0 && b < badBy.length && badBy[b] != NONE;
        }

        int worth(Fold fold) {
            int worth = 0;
            for (int b = 0; b < endedOf(fold); b++) {
                worth += blown[b] ? 0 : fold.ended[b].worth();
            }
            return worth;
        }

        int howMany(Plan plan, Fold fold, int what) {
            int many = 0;
            for (int b = 0; b < endedOf(fold); b++) {
                many += isOneOf(plan, fold, b, what) ? 1 : 0;
            }
            return many;
        }

        private boolean isOneOf(Plan plan, Fold fold, int b, int what) {
            if (b < 0 || b >= MOST_ENDED) {
                return false;
            }
            switch (what) {
                case COUNT_BAD: return isBad(b);
                case COUNT_LATE: return isBad(b) && plan.isLate(fold.ended[b]);
                case COUNT_BLOWN: return blown[b];
                case COUNT_LET: return isBad(b) && !blown[b];
                case COUNT_LOST: return !isBad(b) && blown[b];
                default: return false;
            }
        }

        int howManyBadBy(Fold fold, int k) {
            int many = 0;
            for (int b = 0; b < endedOf(fold); b++) {
                many += badBy[b] == k ? 1 : 0;
            }
            return many;
        }
    }
}
