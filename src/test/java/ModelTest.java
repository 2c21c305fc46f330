import java.util.ArrayDeque;
import java.util.ArrayList;
import java.util.Arrays;
import java.util.Comparator;
import java.util.Deque;
import java.util.List;
import java.util.Random;
import java.util.TreeSet;
import java.util.regex.Matcher;
import java.util.regex.Pattern;

/**
 * Long runs of calls, each answered by the class and by a slow model beside it that goes another way:
 * it floods the whole picture, keeps VALVES as sets of TICKS, tries all NUMBERS, reads TEXTS by patterns.
 */
public final class ModelTest {
    private static final int RUNS = 1500;
    private static final int CALLS = 512;

    public static void main(String[] args) {
        Answers answers = new Answers();
        for (int run = 0; run < RUNS && answers.wrongOnes() < 20; run++) {
            answers.about("run " + run);
            new Run(answers, run).go();
        }
        answers.end();
    }

    /** One object, used for as many calls as are promised. */
    private static final class Run {
        private final Answers answers;
        private final Random random;
        private final SpeckValves real = new SpeckValves();
        private final Model model = new Model();
        private final int manner;
        // Without this hardly a run comes to as many LINES or BLOBS as there may be.
        private final boolean tellsSeldom;
        private int calls;

        Run(Answers answers, int seed) {
            this.answers = answers;
            this.random = new Random(seed);
            this.manner = seed % 5;
            this.tellsSeldom = seed / 5 % 2 == 1;
        }

        void go() {
            int wrongBefore = answers.wrongOnes();
            if (tellsSeldom) {
                tellAnew();
            }
            while (calls < CALLS && answers.wrongOnes() == wrongBefore) {
                int draw = random.nextInt(100);
                if (draw < 4 && (!tellsSeldom || random.nextInt(20) == 0)) {
                    tellAnew();
                } else if (draw < 60) {
                    change();
                } else {
                    ask();
                }
            }
        }

        private void due(String call, int got, int want) {
            calls++;
            answers.due(call + " (call " + calls + ")", got, want);
        }

        private void tellAnew() {
            if (random.nextInt(3) > 0) {
                due("wipe()", real.wipe(), model.wipe());
            }
            for (char letter : someText().toCharArray()) {
                due("write(" + (int) letter + ")", real.write(letter), model.write(letter));
            }
            due("fault()", real.fault(), model.fault());
            due("lay()", real.lay(), model.lay());
        }

        private String someText() {
            StringBuilder text = new StringBuilder();
            int items = random.nextInt(6);
            for (int i = 0; i < items; i++) {
                text.append(someItem());
            }
            if (random.nextInt(5) > 0) {
                text.append("r").append(random.nextInt(4)).append(',').append(1 + random.nextInt(12)).append(';');
            }
            if (random.nextInt(6) == 0 && text.length() > 0) {
                text.setCharAt(random.nextInt(text.length()), "gr0,;dq1 9Z~".charAt(random.nextInt(12)));
            }
            return text.toString();
        }

        private String someItem() {
            boolean isOff = random.nextInt(25) == 0;
            switch (random.nextInt(4)) {
                case 0:
                    int w = isOff ? 2 + random.nextInt(17) : 4 + random.nextInt(13);
                    int v = isOff ? random.nextInt(18) : partOf(w);
                    return "g" + number(w) + "," + number(v) + "," + number(random.nextInt(isOff ? 23 : 21)) + ","
                            + number(random.nextInt(isOff ? 7 : 6)) + "," + number(random.nextInt(isOff ? 7 : 6)) + ";";
                case 1:
                    return "r" + number(random.nextInt(isOff ? 6 : 4)) + "," + number(random.nextInt(isOff ? 2 : 99) + (isOff ? 0 : 1)) + ";";
                case 2:
                    return "d" + number(isOff ? random.nextInt(12) : 1 + random.nextInt(9)) + ";";
                default:
                    return "q" + number(random.nextInt(isOff ? 12 : 10)) + ";";
            }
        }

        private String number(int n) {
            return n < 10 && random.nextInt(6) == 0 ? "0" + n : "" + n;
        }

        private int partOf(int w) {
            int v = 1 + random.nextInt(w);
            while (w % v != 0) {
                v = 1 + random.nextInt(w);
            }
            return v;
        }

        private void change() {
            int draw = random.nextInt(40);
            if (draw < 32) {
                long line = someLine();
                due("see(" + line + ")", real.see(line), model.see(line));
            } else if (draw < 36) {
                int k = random.nextInt(6) - 1;
                int v = random.nextInt(8) == 0 ? random.nextInt(103) - 1 : random.nextInt(12);
                due("rule(" + k + ", " + v + ")", real.rule(k, v), model.rule(k, v));
            } else if (draw < 37) {
                due("clear()", real.clear(), model.clear());
            } else {
                int times = 1 + random.nextInt(random.nextInt(4) == 0 ? 8 : 2);
                for (int i = 0; i < times; i++) {
                    due("undo()", real.undo(), model.undo());
                }
            }
        }

        private long someLine() {
            if (random.nextInt(40) == 0) {
                return random.nextBoolean() ? -1 - random.nextInt(9) : (long) Math.pow(10, model.width) + random.nextInt(3) - 1;
            }
            int filled = new int[] {15, 30, 45, 60, 80}[manner];
            if (random.nextInt(6) == 0) {
                filled = 0;
            }
            long line = 0;
            for (int cell = 0; cell < model.width; cell++) {
                boolean isThere = random.nextInt(100) < filled;
                line = line * 10 + (isThere ? 1 + random.nextInt(random.nextInt(3) == 0 ? 9 : 5) : 0);
            }
            return line;
        }

        private void ask() {
            model.judgeAll();
            switch (random.nextInt(8)) {
                case 0: askBlobs(); break;
                case 1: askOpen(); break;
                case 2: askValve(); break;
                case 3: due("gain()", real.gain(), model.gain()); break;
                case 4: askBest(); break;
                case 5: askTold(); break;
                default: askCounts();
            }
        }

        private void askBlobs() {
            int b = random.nextInt(model.ended().size() + 2) - (random.nextInt(9) == 0 ? 1 : 0);
            for (int what = -1; what <= 10; what++) {
                due("blob(" + b + ", " + what + ")", real.blob(b, what), model.blob(b, what));
            }
        }

        private void askOpen() {
            for (int what = -1; what <= 2; what++) {
                due("open(" + what + ")", real.open(what), model.open(what));
            }
        }

        private void askValve() {
            int j = random.nextInt(model.valves + 2) - 1;
            due("air(" + j + ")", real.air(j), model.air(j));
            for (int k = -2; k <= 3; k++) {
                int what = random.nextInt(12) == 0 ? 2 - 3 * random.nextInt(2) : random.nextInt(2);
                due("opening(" + j + ", " + k + ", " + what + ")", real.opening(j, k, what), model.opening(j, k, what));
            }
        }

        private void askBest() {
            int k = random.nextInt(6) - 1;
            for (int what = 0; what <= 2; what++) {
                due("best(" + k + ", " + what + ")", real.best(k, what), model.best(k, what));
            }
        }

        private void askTold() {
            int k = random.nextInt(6) - 1;
            for (int what = -1; what <= 3; what++) {
                due("told(" + k + ", " + what + ")", real.told(k, what), model.told(k, what));
            }
        }

        private void askCounts() {
            for (int what = -1; what <= 12; what++) {
                due("count(" + what + ")", real.count(what), model.count(what));
            }
        }
    }

    /** A BLOB of the model: a list of CELLS, each {TICK, CELL, COLOUR}. */
    private static final class Spot {
        final List<int[]> cells = new ArrayList<>();
        int rule;
        boolean blown;

        int least(int i) {
            return cells.stream().mapToInt(c -> c[i]).min().getAsInt();
        }

        int most(int i) {
            return cells.stream().mapToInt(c -> c[i]).max().getAsInt();
        }

        int firstLowest() {
            return cells.stream().filter(c -> c[0] == least(0)).mapToInt(c -> c[1]).min().getAsInt();
        }

        int mean() {
            return cells.stream().mapToInt(c -> c[2]).sum() / cells.size();
        }

        int dark(int from) {
            return (int) cells.stream().filter(c -> c[2] >= from).count();
        }
    }

    private static final class Model {
        private static final Pattern ITEM = Pattern.compile(
                "g(\\d\\d?),(\\d\\d?),(\\d\\d?),(\\d\\d?),(\\d\\d?);|r(\\d\\d?),(\\d\\d?);|d(\\d\\d?);|q(\\d\\d?);");

        private String text = "";
        private int width = 8;
        private int valves = 4;
        private int fall = 6;
        private int ahead = 1;
        private int behind = 1;
        private int darkFrom = 7;
        private int rest = 2;
        private int[] kinds = {0, 1};
        private int[] numbers = {5, 2};
        private List<Long> lines = new ArrayList<>();
        private final Deque<Object[]> past = new ArrayDeque<>();
        private List<Spot> spots = new ArrayList<>();
        private List<TreeSet<Integer>> ticks = new ArrayList<>();

        int write(int letter) {
            if (letter < 32 || letter > 126) {
                return -1;
            }
            if (text.length() == 200) {
                return -3;
            }
            text += (char) letter;
            return text.length();
        }

        int wipe() {
            int was = text.length();
            text = "";
            return was;
        }

        int fault() {
            return read(new Model());
        }

        int lay() {
            Model other = new Model();
            if (read(other) != -4 || other.kinds.length == 0) {
                return -2;
            }
            width = other.width;
            valves = other.valves;
            fall = other.fall;
            ahead = other.ahead;
            behind = other.behind;
            darkFrom = other.darkFrom;
            rest = other.rest;
            kinds = other.kinds;
            numbers = other.numbers;
            lines = new ArrayList<>();
            past.clear();
            return width;
        }

        private int read(Model into) {
            into.kinds = new int[0];
            into.numbers = new int[0];
            Matcher item = ITEM.matcher(text);
            int at = 0;
            while (at < text.length()) {
                item.region(at, text.length());
                if (!item.lookingAt() || !into.take(item)) {
                    return at;
                }
                at = item.end();
            }
            return -4;
        }

        private boolean take(Matcher item) {
            int[] n = new int[10];
            for (int i = 1; i <= 9; i++) {
                n[i] = item.group(i) == null ? -1 : Integer.parseInt(item.group(i));
            }
            switch (item.group().charAt(0)) {
                case 'g':
                    width = n[1];
                    valves = n[2];
                    fall = n[3];
                    ahead = n[4];
                    behind = n[5];
                    return width >= 4 && width <= 16 && valves >= 1 && width / valves * valves == width
                            && fall <= 20 && ahead <= 5 && behind <= 5;
                case 'r':
                    kinds = Arrays.copyOf(kinds, kinds.length + 1);
                    kinds[kinds.length - 1] = n[6];
                    numbers = Arrays.copyOf(numbers, numbers.length + 1);
                    numbers[numbers.length - 1] = n[7];
                    return kinds.length <= 4 && n[6] <= 3 && n[7] >= 1;
                case 'd':
                    darkFrom = n[8];
                    return darkFrom >= 1 && darkFrom <= 9;
                default:
                    rest = n[9];
                    return rest <= 9;
            }
        }

        private void remember() {
            past.addLast(new Object[] {new ArrayList<>(lines), numbers.clone()});
            if (past.size() > 6) {
                past.removeFirst();
            }
        }

        int see(long line) {
            if (line < 0 || Long.toString(line).length() > width) {
                return -1;
            }
            int before = ended().size();
            if (lines.size() == 60 || before >= 24) {
                return -3;
            }
            remember();
            lines.add(line);
            return ended().size() - before;
        }

        int rule(int k, int v) {
            if (k < 0 || k >= numbers.length || v < 1 || v > 99) {
                return -1;
            }
            if (numbers[k] == v) {
                return -2;
            }
            remember();
            int was = numbers[k];
            numbers[k] = v;
            return was;
        }

        int clear() {
            if (lines.isEmpty()) {
                return -2;
            }
            int was = lines.size();
            remember();
            lines = new ArrayList<>();
            return was;
        }

        @SuppressWarnings("unchecked")
        int undo() {
            if (past.isEmpty()) {
                return -2;
            }
            Object[] then = past.removeLast();
            lines = (List<Long>) then[0];
            numbers = (int[]) then[1];
            return past.size();
        }

        private List<Spot> flood() {
            int[][] picture = new int[lines.size()][width];
            for (int t = 0; t < lines.size(); t++) {
                String figures = String.format("%0" + width + "d", lines.get(t));
                for (int c = 0; c < width; c++) {
                    picture[t][c] = figures.charAt(c) - '0';
                }
            }
            List<Spot> found = new ArrayList<>();
            for (int t = 0; t < lines.size(); t++) {
                for (int c = 0; c < width; c++) {
                    if (picture[t][c] != 0) {
                        Spot spot = new Spot();
                        floodFrom(picture, t, c, spot);
                        found.add(spot);
                    }
                }
            }
            return found;
        }

        private void floodFrom(int[][] picture, int t, int c, Spot spot) {
            if (t < 0 || t >= picture.length || c < 0 || c >= width || picture[t][c] == 0) {
                return;
            }
            spot.cells.add(new int[] {t, c, picture[t][c]});
            picture[t][c] = 0;
            for (int dt = -1; dt <= 1; dt++) {
                for (int dc = -1; dc <= 1; dc++) {
                    floodFrom(picture, t + dt, c + dc, spot);
                }
            }
        }

        List<Spot> ended() {
            List<Spot> all = flood();
            all.removeIf(s -> s.most(0) == lines.size() - 1);
            all.sort(Comparator.comparingInt((Spot s) -> s.most(0)).thenComparingInt(s -> s.least(0))
                    .thenComparingInt(Spot::firstLowest));
            return all;
        }

        void judgeAll() {
            spots = ended();
            judge();
        }

        private int measure(Spot spot, int kind) {
            int[] all = {spot.mean(), spot.dark(darkFrom), spot.cells.size(), spot.most(0) - spot.least(0) + 1};
            return all[kind];
        }

        private boolean isOver(int j, Spot spot) {
            int each = width / valves;
            return j * each <= spot.most(1) && j * each + each - 1 >= spot.least(1);
        }

        private void judge() {
            ticks = new ArrayList<>();
            for (int j = 0; j < valves; j++) {
                ticks.add(new TreeSet<>());
            }
            for (Spot spot : spots) {
                spot.rule = -4;
                for (int k = numbers.length - 1; k >= 0; k--) {
                    spot.rule = measure(spot, kinds[k]) >= numbers[k] ? k : spot.rule;
                }
                int end = spot.most(0) + 1;
                for (int t = spot.least(0) + fall - ahead; spot.rule >= 0 && t <= spot.most(0) + fall + behind; t++) {
                    for (int j = 0; j < valves && t >= end; j++) {
                        if (isOver(j, spot)) {
                            ticks.get(j).add(t);
                        }
                    }
                }
            }
            ticks.forEach(this::fillGaps);
            for (Spot spot : spots) {
                spot.blown = isBlown(spot);
            }
        }

        private void fillGaps(TreeSet<Integer> open) {
            for (int t : new ArrayList<>(open)) {
                Integer after = open.higher(t);
                if (after != null && after - t - 1 < rest) {
                    for (int between = t; between < after; between++) {
                        open.add(between);
                    }
                }
            }
        }

        private boolean isBlown(Spot spot) {
            for (int j = 0; j < valves; j++) {
                if (isOver(j, spot)
                        && !ticks.get(j).subSet(spot.least(0) + fall, true, spot.most(0) + fall, true).isEmpty()) {
                    return true;
                }
            }
            return false;
        }

        private boolean isLate(Spot spot) {
            return spot.rule >= 0 && spot.least(0) + fall - ahead < spot.most(0) + 1;
        }

        int blob(int b, int what) {
            if (b < 0 || b >= spots.size() || what < 0 || what > 9) {
                return -1;
            }
            Spot s = spots.get(b);
            int[] all = {s.least(0), s.most(0), s.least(1), s.most(1), s.cells.size(), s.mean(), s.dark(darkFrom),
                s.rule, isLate(s) ? 1 : 0, s.blown ? 1 : 0};
            return all[what];
        }

        int open(int what) {
            List<Spot> all = flood();
            all.removeIf(s -> s.most(0) != lines.size() - 1);
            return what == 0 ? all.size() : what == 1 ? all.stream().mapToInt(s -> s.cells.size()).sum() : -1;
        }

        int opening(int j, int k, int what) {
            if (j < 0 || j >= valves || k < -1 || what < 0 || what > 1) {
                return -1;
            }
            List<Integer> firsts = new ArrayList<>();
            List<Integer> lasts = new ArrayList<>();
            for (int t : ticks.get(j)) {
                if (!ticks.get(j).contains(t - 1)) {
                    firsts.add(t);
                }
                if (!ticks.get(j).contains(t + 1)) {
                    lasts.add(t);
                }
            }
            return k == -1 ? firsts.size() : k >= firsts.size() ? -4 : what == 0 ? firsts.get(k) : lasts.get(k);
        }

        int air(int j) {
            return j < 0 || j >= valves ? -1 : ticks.get(j).size();
        }

        int gain() {
            int sum = 10000;
            for (Spot s : spots) {
                int dark = s.dark(darkFrom);
                sum += s.blown ? 0 : dark > 0 ? -3 * dark : s.cells.size();
            }
            return sum;
        }

        int best(int k, int what) {
            if (k < 0 || k >= numbers.length || what < 0 || what > 1) {
                return -1;
            }
            int was = numbers[k];
            int most = Integer.MIN_VALUE;
            int number = 0;
            for (int n = 1; n <= 99; n++) {
                numbers[k] = n;
                judge();
                if (gain() > most) {
                    most = gain();
                    number = n;
                }
            }
            numbers[k] = was;
            judge();
            return what == 0 ? number : most;
        }

        int count(int what) {
            int[] all = {width, valves, numbers.length, lines.size(), spots.size(),
                many(s -> s.rule >= 0), many(this::isLate), many(s -> s.blown),
                many(s -> s.rule >= 0 && !s.blown), many(s -> s.rule < 0 && s.blown), past.size(), text.length()};
            return what < 0 || what >= all.length ? -1 : all[what];
        }

        private int many(java.util.function.Predicate<Spot> which) {
            return (int) spots.stream().filter(which).count();
        }

        int told(int k, int what) {
            if (k < 0 || k >= numbers.length || what < 0 || what > 2) {
                return -1;
            }
            return what == 0 ? kinds[k] : what == 1 ? numbers[k] : many(s -> s.rule == k);
        }
    }
}
