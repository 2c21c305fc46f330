/** Edges of what is gained, BEST NUMBERS, counts and RULES asked (section 3 of the document, promises 14 to 17). */
public final class WorthBoundaryTest extends Calls {
    public static void main(String[] args) {
        gainOfNothing();
        gainByDark();
        gainOfBlown();
        gainLeastAndMost();
        bestOfNothing();
        bestIsTheLeast();
        bestIsTheHighest();
        bestBeyondTheHighest();
        bestByEachKind();
        bestWithOtherRules();
        bestIsNotThatTold();
        bestIsBad();
        countsOfNothing();
        countsAtTheirMost();
        countIsBad();
        toldOfRules();
        toldIsBad();
        answers.end();
    }

    private static void gainOfNothing() {
        answers.about("14 GAIN and ZERO, of nothing");
        SpeckValves x = laid("g4,4,0,0,0;r2,99;");
        answers.due("no LINE", x.gain(), ZERO);
        x.see(0L);
        answers.due("an empty LINE", x.gain(), ZERO);
        x.see(1111L);
        answers.due("one that has not ENDED", x.gain(), ZERO);
        x.see(0L);
        answers.due("it ENDED", x.gain(), ZERO + 4);
        x.undo();
        answers.due("UNDONE", x.gain(), ZERO);
        x.clear();
        answers.due("cleared", x.gain(), ZERO);
    }

    private static void gainByDark() {
        answers.about("3 SIZE of those without DARK CELLS, less 3 for each DARK CELL of the others");
        long[][] rows = {{1, 1}, {6, 1}, {7, -3}, {9, -3}, {6666, 4}, {6667, -3}, {7666, -3}, {6677, -6}, {7777, -12}, {1001, 2},
            {7001, -2}, {7007, -6}, {1, 1}};
        for (long[] row : rows) {
            SpeckValves x = laid("g4,4,0,0,0;r2,99;");
            seen(x, row[0], 0L);
            answers.due("gain() of " + row[0], x.gain(), ZERO + row[1]);
        }
        SpeckValves x = laid("g4,4,0,0,0;r2,99;d9;");
        seen(x, 8888L, 0L, 9L, 0L);
        answers.due("DARK from 9 on", x.gain(), ZERO + 4 - 3);
        x = laid("g4,4,0,0,0;r2,99;d1;");
        seen(x, 1111L, 0L);
        answers.due("DARK from 1 on", x.gain(), ZERO - 12);
    }

    private static void gainOfBlown() {
        answers.about("3 over all that ENDED and are not BLOWN");
        SpeckValves x = laid("g4,1,6,0,0;r1,1;q0;");
        seen(x, 9000L, 0L);
        answers.due("BAD and BLOWN", x.gain(), ZERO);
        x.undo();
        x.undo();
        seen(x, 9011L, 0L);
        answers.due("GOOD and BLOWN with it", x.gain(), ZERO);
        x.rule(0, 2);
        answers.due("none BLOWN", x.gain(), ZERO - 3 + 2);
        x = laid("g4,1,0,0,0;r1,1;q0;");
        seen(x, 9011L, 0L);
        answers.due("BAD, but LET", x.gain(), ZERO - 3 + 2);
    }

    private static void gainLeastAndMost() {
        answers.about("14 the least and the most");
        SpeckValves x = laid("g16,16,0,0,0;r2,1;d1;");
        seenTimes(x, 59, 1111111111111111L);
        x.see(0L);
        answers.due("all DARK", x.gain(), ZERO - 3 * 944);
        answers.due("BEST is no better", x.best(0, 1), ZERO - 3 * 944);
        x = laid("g16,16,0,0,0;r2,1;d9;");
        seenTimes(x, 59, 8888888888888888L);
        x.see(0L);
        answers.due("none DARK", x.gain(), ZERO + 944);
    }

    private static void bestOfNothing() {
        answers.about("15 BEST of nothing: of several the least");
        SpeckValves x = laid("r0,99;r1,99;r2,99;r3,99;");
        for (int round = 0; round < 3; round++) {
            for (int k = 0; k < 4; k++) {
                answers.due("best(" + k + ", 0)", x.best(k, 0), 1);
                answers.due("best(" + k + ", 1)", x.best(k, 1), ZERO);
            }
            // An empty LINE and one whose BLOB has not ENDED are nothing, too.
            x.see(round == 0 ? 0L : 9L);
        }
    }

    private static void bestIsTheLeast() {
        answers.about("15 that (1 to 99) by which GAIN is most, of several the least");
        SpeckValves x = laid("g4,4,6,1,1;r2,50;");
        seen(x, 9L, 0L);
        answers.due("one that is DARK is BLOWN by 1 only", x.best(0, 0), 1);
        answers.due("GAIN by it", x.best(0, 1), ZERO);
        x.undo();
        x.undo();
        seen(x, 99L, 0L);
        answers.due("by 1 and 2", x.best(0, 0), 1);
        x.undo();
        x.undo();
        seen(x, 1L, 0L);
        answers.due("one that is not DARK: from 2 on", x.best(0, 0), 2);
        answers.due("GAIN by it", x.best(0, 1), ZERO + 1);
        x.undo();
        x.undo();
        seen(x, 1111L, 0L);
        answers.due("SIZE 4: from 5 on", x.best(0, 0), 5);
        x = laid("g4,4,0,0,0;r2,50;");
        seen(x, 1111L, 0L);
        answers.due("where none can be BLOWN", x.best(0, 0), 1);
        answers.due("GAIN by it", x.best(0, 1), ZERO + 4);
    }

    /** One BLOB without DARK CELLS of 96 and some CELLS. */
    private static SpeckValves sizeOf(long lastLine) {
        SpeckValves x = laid("g16,1,20,0,0;r2,50;");
        seenTimes(x, 6, 1111111111111111L);
        seen(x, lastLine, 0L);
        return x;
    }

    private static void bestIsTheHighest() {
        answers.about("15 BEST: 98 and 99");
        SpeckValves x = sizeOf(1L);
        answers.due("SIZE 97: best(0, 0)", x.best(0, 0), 98);
        answers.due("SIZE 97: best(0, 1)", x.best(0, 1), ZERO + 97);
        x = sizeOf(11L);
        answers.due("SIZE 98: best(0, 0)", x.best(0, 0), 99);
        answers.due("SIZE 98: best(0, 1)", x.best(0, 1), ZERO + 98);
    }

    private static void bestBeyondTheHighest() {
        answers.about("15 BEST: no NUMBER is above 99");
        SpeckValves x = sizeOf(111L);
        answers.due("SIZE 99: best(0, 0)", x.best(0, 0), 1);
        answers.due("SIZE 99: best(0, 1)", x.best(0, 1), ZERO);
        x = sizeOf(1111L);
        answers.due("SIZE 100: best(0, 0)", x.best(0, 0), 1);
        answers.due("SIZE 100: best(0, 1)", x.best(0, 1), ZERO);
    }

    private static void bestByEachKind() {
        answers.about("15 BEST by each KIND");
        // One that is not DARK: MEAN 6, DARK 0, SIZE 6, TALL 3; one that is: MEAN 8, DARK 2, SIZE 2, TALL 2.
        // By SIZE and TALL the DARK one is never BLOWN alone: both BLOWN are as good as none.
        int[] numbers = {7, 1, 1, 1};
        int[] gains = {6, 6, 0, 0};
        for (int kind = 0; kind < 4; kind++) {
            SpeckValves x = laid("g8,8,6,1,1;r" + kind + ",99;");
            seen(x, 66000008L, 66000008L, 66000000L, 0L);
            answers.due("best(0, 0) of KIND " + kind, x.best(0, 0), numbers[kind]);
            answers.due("best(0, 1) of KIND " + kind, x.best(0, 1), ZERO + gains[kind]);
        }
        SpeckValves x = laid("g4,4,6,1,1;r0,1;");
        seen(x, 6L, 0L, 9L, 0L);
        answers.due("MEAN above 6", x.best(0, 0), 7);
        x = laid("g4,4,20,1,1;r3,1;");
        seenTimes(x, 59, 1L);
        x.see(0L);
        answers.due("TALL above 59", x.best(0, 0), 60);
        answers.due("GAIN by it", x.best(0, 1), ZERO + 59);
    }

    private static void bestWithOtherRules() {
        answers.about("15 all else as it is");
        SpeckValves x = laid("g8,8,6,1,1;r2,2;r1,1;");
        seen(x, 11000009L, 0L);
        answers.due("RULE 0: the other blows the DARK one", x.best(0, 0), 3);
        answers.due("GAIN by it", x.best(0, 1), ZERO + 2);
        answers.due("RULE 1: the other blows the first one", x.best(1, 0), 1);
        answers.due("GAIN by it", x.best(1, 1), ZERO);
        x.rule(1, 2);
        answers.due("RULE 0: nothing blows the DARK one alone", x.best(0, 0), 1);
        answers.due("GAIN by it", x.best(0, 1), ZERO);
        x.rule(0, 3);
        answers.due("RULE 1 alone", x.best(1, 0), 1);
        answers.due("GAIN by it", x.best(1, 1), ZERO + 2);
    }

    private static void bestIsNotThatTold() {
        answers.about("15 asking changes nothing");
        SpeckValves x = laid("g4,1,6,1,1;r2,99;");
        seen(x, 9L, 0L);
        int[] before = countsOf(x);
        answers.due("gain()", x.gain(), ZERO - 3);
        answers.due("best(0, 1) is that of another NUMBER", x.best(0, 1), ZERO);
        answers.due("counts", countsOf(x), before);
        answers.due("NUMBER", x.told(0, 1), 99);
        answers.due("openings", x.opening(0, -1, 0), 0);
        answers.due("BLOWN", x.blob(0, 9), 0);
        answers.due("gain() again", x.gain(), ZERO - 3);
    }

    private static void bestIsBad() {
        answers.about("15 BAD");
        for (int rules = 1; rules <= 4; rules++) {
            SpeckValves x = laid("r0,9;r1,9;r2,9;r3,9;".substring(0, 5 * rules));
            for (int k : new int[] {-1, rules, 4, LEAST, MOST, 256}) {
                answers.due("best(" + k + ", 0) of " + rules, x.best(k, 0), BAD);
                answers.due("best(" + k + ", 1) of " + rules, x.best(k, 1), BAD);
            }
            for (int what : new int[] {-1, 2, LEAST, MOST, 256}) {
                answers.due("best(0, " + what + ")", x.best(0, what), BAD);
                answers.due("best(" + rules + ", " + what + ")", x.best(rules, what), BAD);
            }
            answers.due("best of the last one", x.best(rules - 1, 0), 1);
        }
    }

    private static void countsOfNothing() {
        answers.about("16 of nothing");
        answers.due("a new object", countsOf(new SpeckValves()), 8, 4, 2, 0, 0, 0, 0, 0, 0, 0, 0, 0);
        answers.due("the least", countsOf(laid("g4,1,0,0,0;r0,1;")), 4, 1, 1, 0, 0, 0, 0, 0, 0, 0, 0, 16);
    }

    private static void countsAtTheirMost() {
        answers.about("16 at their most");
        SpeckValves x = laid("g16,16,0,0,0;r0,1;r0,1;r0,1;r0,1;" + "q0;".repeat(53) + "q00;q00;");
        seenTimes(x, 52, 0L);
        seen(x, 1010101010101010L, 0L, 1010101010101010L, 0L, 1010101010101000L, 0L, 1010101010101010L, 0L);
        answers.due("all BAD, LATE and LET", countsOf(x), 16, 16, 4, 60, 31, 31, 31, 0, 31, 0, 6, 200);
        answers.due("told(0, 2)", x.told(0, 2), 31);
        x = laid("g4,1,1,0,0;r1,1;");
        seen(x, 9L, 0L, 9001L, 0L, 1001L, 0L);
        // Open from 1 to 3: of the GOOD ones only that of TICK 2 passes then.
        answers.due("BLOWN and LOST", countsOf(x), 4, 1, 1, 6, 5, 2, 0, 3, 0, 1, 6, 16);
    }

    private static void countIsBad() {
        answers.about("16 BAD");
        SpeckValves x = new SpeckValves();
        for (int what : new int[] {-1, -2, 12, 13, LEAST, MOST, 256, 65536}) {
            answers.due("count(" + what + ")", x.count(what), BAD);
        }
        answers.due("count(0)", x.count(0), 8);
        answers.due("count(11)", x.count(11), 0);
    }

    private static void toldOfRules() {
        answers.about("17 KIND, NUMBER, how many are BAD by it");
        SpeckValves x = laid("g4,4,6,1,1;r3,99;r2,1;");
        answers.due("KIND", x.told(0, 0) * 10 + x.told(1, 0), 32);
        answers.due("NUMBER", x.told(0, 1) * 100 + x.told(1, 1), 9901);
        answers.due("BAD by it, of none", x.told(0, 2) + x.told(1, 2), 0);
        seen(x, 1001L, 0L, 1L);
        answers.due("BAD by it", x.told(0, 2) * 10 + x.told(1, 2), 2);
        x.rule(0, 1);
        answers.due("BAD by another", x.told(0, 2) * 10 + x.told(1, 2), 20);
        answers.due("KIND stays", x.told(0, 0), 3);
        x.undo();
        answers.due("UNDONE", x.told(0, 1) * 100 + x.told(1, 2), 9902);
        x.clear();
        answers.due("cleared", x.told(0, 2) + x.told(1, 2), 0);
    }

    private static void toldIsBad() {
        answers.about("17 BAD");
        for (int rules = 1; rules <= 4; rules++) {
            SpeckValves x = laid("r0,9;r1,9;r2,9;r3,9;".substring(0, 5 * rules));
            for (int k : new int[] {-1, rules, 4, LEAST, MOST, 256}) {
                for (int what = 0; what <= 2; what++) {
                    answers.due("told(" + k + ", " + what + ") of " + rules, x.told(k, what), BAD);
                }
            }
            for (int what : new int[] {-1, 3, LEAST, MOST, 256}) {
                answers.due("told(0, " + what + ")", x.told(0, what), BAD);
                answers.due("told(" + rules + ", " + what + ")", x.told(rules, what), BAD);
            }
            answers.due("told of the last one", x.told(rules - 1, 0) * 10 + x.told(rules - 1, 1), 10 * rules - 10 + 9);
        }
    }
}
