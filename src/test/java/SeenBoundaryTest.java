/** Edges of changes: LINES seen, NUMBERS told anew, all cleared, UNDONE (promises 6 to 9, "A change"). */
public final class SeenBoundaryTest extends Calls {
    public static void main(String[] args) {
        figuresOfALine();
        cellsOfALine();
        noughtIsNothing();
        sixtyLines();
        sixtyLinesAnew();
        twentyFourEnded();
        moreThanTwentyFour();
        endedUndone();
        ruleNumbers();
        rulesThereAre();
        ruleIsSo();
        clearNeedsALine();
        clearedAll();
        clearUndone();
        sixCanBeUndone();
        seventhOfAllKinds();
        undoneAndSeenAnew();
        nothingBecomesAnother();
        noneBehindLaid();
        refusedAreNoChanges();
        lastCallOfAll();
        answers.end();
    }

    private static SpeckValves cells(int width) {
        return laid("g" + width + ",1,0,0,0;r2,99;");
    }

    private static void figuresOfALine() {
        answers.about("6 BAD: below 0, more than W figures");
        for (int w = 4; w <= 16; w++) {
            SpeckValves x = cells(w);
            long most = tenTo(w) - 1;
            answers.due("see(-1) of " + w, x.see(-1L), BAD);
            answers.due("see(least) of " + w, x.see(Long.MIN_VALUE), BAD);
            answers.due("see(below 0 by W figures) of " + w, x.see(-most), BAD);
            answers.due("see(W and 1 figures) of " + w, x.see(most + 1), BAD);
            answers.due("see(W and 1 figures, more) of " + w, x.see(most + 2), BAD);
            answers.due("see(most) of " + w, x.see(Long.MAX_VALUE), BAD);
            answers.due("LINES of " + w, x.count(3), 0);
            answers.due("see(W figures) of " + w, x.see(most), 0);
            answers.due("CELLS of " + w, x.open(1), w);
            answers.due("see(0) of " + w, x.see(0L), 1);
            answers.due("blob of " + w, blobOf(x, 0), 0, 0, 0, w - 1, w, 9, w, NONE, 0, 0);
            answers.due("LINES of " + w, x.count(3), 2);
        }
        SpeckValves x = cells(4);
        // Each would be a LINE, if only its lowest 32 bits were looked at.
        answers.due("see(2 to the 32nd)", x.see(1L << 32), BAD);
        answers.due("see(2 to the 32nd and 9)", x.see((1L << 32) + 9), BAD);
        answers.due("see(2 to the 63rd and 9)", x.see(Long.MIN_VALUE + 9), BAD);
        answers.due("LINES", x.count(3), 0);
    }

    private static void cellsOfALine() {
        answers.about("6 CELL 0 the highest, 9 at CELL W - 1 alone: 9");
        for (int w = 4; w <= 16; w++) {
            for (int cell = 0; cell < w; cell++) {
                SpeckValves x = cells(w);
                seen(x, cellAt(w, cell, 9), 0L);
                answers.due("blob at " + cell + " of " + w, blobOf(x, 0), 0, 0, cell, cell, 1, 9, 1, NONE, 0, 0);
            }
            SpeckValves x = cells(w);
            seen(x, 9L, 0L);
            answers.due("LEFT of 9 of " + w, x.blob(0, 2), w - 1);
        }
    }

    private static void noughtIsNothing() {
        answers.about("COLOUR 0 to 9 (0: nothing is there)");
        for (int colour = 0; colour <= 9; colour++) {
            SpeckValves x = cells(4);
            seen(x, colour * 100L);
            answers.due("BLOBS of " + colour, x.open(0), colour == 0 ? 0 : 1);
            answers.due("CELLS of " + colour, x.open(1), colour == 0 ? 0 : 1);
            answers.due("see(0) behind " + colour, x.see(0L), colour == 0 ? 0 : 1);
            answers.due("MEAN of " + colour, x.blob(0, 5), colour == 0 ? BAD : colour);
        }
    }

    private static void sixtyLines() {
        answers.about("6 FULL: 60 LINES are seen");
        SpeckValves x = cells(4);
        for (int lines = 0; lines < 60; lines++) {
            answers.due("LINES", x.count(3), lines);
            answers.due("see(0) behind " + lines, x.see(0L), 0);
        }
        answers.due("see(0) behind 60", x.see(0L), FULL);
        answers.due("see(9999) behind 60", x.see(9999L), FULL);
        answers.due("BAD comes ahead of FULL: -1", x.see(-1L), BAD);
        answers.due("BAD comes ahead of FULL: 10000", x.see(10000L), BAD);
        answers.due("LINES", x.count(3), 60);
        answers.due("open(0)", x.open(0), 0);
        x = cells(4);
        seenTimes(x, 59, 1L);
        answers.due("a BLOB of 59 LINES ends by the LINE 60", x.see(0L), 1);
        answers.due("it", blobOf(x, 0), 0, 58, 3, 3, 59, 1, 0, NONE, 0, 0);
        x = cells(4);
        seenTimes(x, 60, 1L);
        answers.due("a BLOB of 60 LINES does not end", x.see(0L), FULL);
        answers.due("ENDED", x.count(4), 0);
        answers.due("CELLS that are open", x.open(1), 60);
    }

    private static void sixtyLinesAnew() {
        answers.about("6 FULL no more: UNDONE, cleared, LAID");
        SpeckValves x = cells(4);
        seenTimes(x, 60, 1L);
        answers.due("undo()", x.undo(), 5);
        answers.due("see(1) as LINE 60", x.see(1L), 0);
        answers.due("see(1) as LINE 61", x.see(1L), FULL);
        answers.due("count(10)", x.count(10), 6);
        answers.due("clear()", x.clear(), 60);
        answers.due("60 LINES anew", seenTimes(x, 60, 1L), 0);
        answers.due("see(1) as LINE 61", x.see(1L), FULL);
        answers.due("lay()", x.lay(), 4);
        answers.due("60 LINES anew", seenTimes(x, 60, 1L), 0);
        answers.due("see(1) as LINE 61", x.see(1L), FULL);
        answers.due("open(1)", x.open(1), 60);
    }

    private static void twentyFourEnded() {
        answers.about("6 FULL: 24 BLOBS or more ENDED");
        SpeckValves x = cells(4);
        for (int ended = 0; ended < 24; ended++) {
            answers.due("see(1) behind " + ended, x.see(1L), 0);
            answers.due("see(0) behind " + ended, x.see(0L), 1);
        }
        answers.due("ENDED", x.count(4), 24);
        answers.due("see(0) behind 24", x.see(0L), FULL);
        answers.due("see(1) behind 24", x.see(1L), FULL);
        answers.due("BAD comes ahead of FULL: -1", x.see(-1L), BAD);
        answers.due("BAD comes ahead of FULL: 10000", x.see(10000L), BAD);
        answers.due("LINES", x.count(3), 48);
        answers.due("blob(23, 0)", x.blob(23, 0), 46);
        answers.due("blob(24, 0)", x.blob(24, 0), BAD);
        x = cells(4);
        seenTimes(x, 23, 1L, 0L);
        answers.due("23: a LINE is taken", x.see(1001L), 0);
        answers.due("23: one more ends, one goes on", x.see(1L), 1);
        answers.due("24: FULL, though one is open", x.see(0L), FULL);
        answers.due("it stays open", x.open(0) * 10 + x.open(1), 12);
    }

    private static void moreThanTwentyFour() {
        answers.about("6 FULL: more than 24 ENDED");
        long eight = 1010101010101010L;
        SpeckValves x = cells(16);
        answers.due("23 ENDED", seen(x, eight, 0L, eight, 0L, 1010101010101000L, 0L), 23);
        answers.due("see(eight) behind 23", x.see(eight), 0);
        answers.due("eight end by one LINE", x.see(0L), 8);
        answers.due("ENDED", x.count(4), 31);
        answers.due("the last one", blobOf(x, 30), 6, 6, 14, 14, 1, 1, 0, NONE, 0, 0);
        answers.due("blob(31, 0)", x.blob(31, 0), BAD);
        answers.due("see(0) behind 31", x.see(0L), FULL);
        answers.due("gain()", x.gain(), ZERO + 31);
        x = cells(16);
        answers.due("16 ENDED", seen(x, eight, 0L, eight, 0L), 16);
        answers.due("eight end by one LINE", seen(x, eight, 0L), 8);
        answers.due("see(0) behind 24", x.see(0L), FULL);
    }

    private static void endedUndone() {
        answers.about("6 FULL no more, as fewer ENDED");
        SpeckValves x = cells(4);
        seenTimes(x, 24, 1L, 0L);
        answers.due("undo()", x.undo(), 5);
        answers.due("ENDED", x.count(4), 23);
        answers.due("open(0)", x.open(0), 1);
        answers.due("see(1)", x.see(1L), 0);
        answers.due("see(0)", x.see(0L), 1);
        answers.due("see(0) behind 24", x.see(0L), FULL);
        answers.due("clear()", x.clear(), 49);
        answers.due("see(0) behind clear()", x.see(0L), 0);
        answers.due("undo() of it", x.undo(), 5);
        answers.due("undo() of clear()", x.undo(), 4);
        answers.due("see(0) behind 24 again", x.see(0L), FULL);
        answers.due("lay()", x.lay(), 4);
        answers.due("see(0) behind lay()", x.see(0L), 0);
    }

    private static void ruleNumbers() {
        answers.about("7 NUMBER of a RULE (1 to 99)");
        for (int v = -150; v <= 250; v++) {
            SpeckValves x = laid("r2,50;");
            boolean isTaken = v >= 1 && v <= 99 && v != 50;
            answers.due("rule(0, " + v + ")", x.rule(0, v), isTaken ? 50 : v == 50 ? NO : BAD);
            answers.due("NUMBER behind " + v, x.told(0, 1), isTaken ? v : 50);
            answers.due("count(10) behind " + v, x.count(10), isTaken ? 1 : 0);
        }
        SpeckValves x = laid("r2,50;");
        for (int v : new int[] {LEAST, LEAST + 1, MOST, 256 + 50, 65536 + 1}) {
            answers.due("rule(0, " + v + ")", x.rule(0, v), BAD);
        }
        answers.due("NUMBER", x.told(0, 1), 50);
    }

    private static void rulesThereAre() {
        answers.about("7 BAD: RULES such as there are");
        for (int rules = 1; rules <= 4; rules++) {
            SpeckValves x = laid("r0,9;r1,9;r2,9;r3,9;".substring(0, 5 * rules));
            for (int k : new int[] {-1, rules, 4, 5, LEAST, MOST, 256}) {
                answers.due("rule(" + k + ", 7) of " + rules, x.rule(k, 7), BAD);
                answers.due("rule(" + k + ", 9) of " + rules, x.rule(k, 9), BAD);
            }
            answers.due("count(10)", x.count(10), 0);
            for (int k = 0; k < rules; k++) {
                answers.due("rule(" + k + ", 7) of " + rules, x.rule(k, 7), 9);
            }
            answers.due("count(10)", x.count(10), rules);
        }
        SpeckValves x = laid("r0,9;r1,9;r2,9;r3,9;");
        tell(x, "r0,9;");
        x.lay();
        answers.due("RULES of what was LAID once are none", x.rule(1, 7), BAD);
    }

    private static void ruleIsSo() {
        answers.about("7 NO: it is so");
        SpeckValves x = new SpeckValves();
        answers.due("rule(0, 5)", x.rule(0, 5), NO);
        answers.due("rule(0, 4)", x.rule(0, 4), 5);
        answers.due("rule(0, 4) again", x.rule(0, 4), NO);
        answers.due("rule(0, 5) is no more so", x.rule(0, 5), 4);
        answers.due("undo()", x.undo(), 1);
        answers.due("rule(0, 4) behind undo()", x.rule(0, 4), NO);
        answers.due("undo()", x.undo(), 0);
        answers.due("rule(0, 5) behind undo()", x.rule(0, 5), NO);
        answers.due("rule(1, 2)", x.rule(1, 2), NO);
        answers.due("BAD comes ahead of NO", x.rule(2, 5), BAD);
        answers.due("count(10)", x.count(10), 0);
    }

    private static void clearNeedsALine() {
        answers.about("8 NO: none was");
        SpeckValves x = new SpeckValves();
        answers.due("clear()", x.clear(), NO);
        x.rule(0, 9);
        answers.due("clear() behind a NUMBER alone", x.clear(), NO);
        answers.due("NUMBER", x.told(0, 1), 9);
        answers.due("count(10)", x.count(10), 1);
        x.see(0L);
        answers.due("clear() of one LINE", x.clear(), 1);
        answers.due("clear() again", x.clear(), NO);
        answers.due("count(10)", x.count(10), 3);
        x.see(0L);
        x.undo();
        answers.due("clear() of a LINE that is UNDONE", x.clear(), NO);
        seenTimes(x, 60, 0L);
        answers.due("clear() of 60 LINES", x.clear(), 60);
    }

    private static void clearedAll() {
        answers.about("8 all cleared (as LAID, with RULES as they are)");
        SpeckValves x = laid("g4,2,3,0,0;r2,1;r3,5;");
        seen(x, 1100L, 0L, 9L);
        x.rule(1, 7);
        answers.due("clear()", x.clear(), 3);
        answers.due("counts", countsOf(x), 4, 2, 2, 0, 0, 0, 0, 0, 0, 0, 5, 21);
        answers.due("NUMBER told anew", x.told(1, 1), 7);
        answers.due("open(0), open(1)", x.open(0) + x.open(1), 0);
        answers.due("blob(0, 0)", x.blob(0, 0), BAD);
        answers.due("openings", x.opening(0, -1, 0) + x.opening(1, -1, 0), 0);
        answers.due("air(0)", x.air(0), 0);
        answers.due("gain()", x.gain(), ZERO);
        answers.due("best(0, 0)", x.best(0, 0), 1);
        answers.due("a LINE hangs with none that was cleared", seen(x, 9L, 0L), 1);
        answers.due("it begins at TICK 0", blobOf(x, 0), 0, 0, 3, 3, 1, 9, 1, 0, 0, 1);
    }

    private static void clearUndone() {
        answers.about("9 all cleared, UNDONE");
        SpeckValves x = laid("g4,2,3,0,0;r2,1;");
        seenTimes(x, 15, 1100L, 0L, 0L, 0L);
        answers.due("clear()", x.clear(), 60);
        x.see(5L);
        x.rule(0, 50);
        answers.due("undo() of a NUMBER", x.undo(), 5);
        answers.due("undo() of a LINE", x.undo(), 4);
        answers.due("undo() of clear()", x.undo(), 3);
        answers.due("LINES", x.count(3), 60);
        answers.due("ENDED", x.count(4), 15);
        answers.due("NUMBER", x.told(0, 1), 1);
        answers.due("the last one", blobOf(x, 14), 56, 56, 0, 1, 2, 1, 0, 0, 0, 1);
        answers.due("its OPENING", x.opening(0, 14, 0) * 100 + x.opening(0, 14, 1), 5959);
        answers.due("see(0)", x.see(0L), FULL);
        answers.due("undo() of a LINE ahead of clear()", x.undo(), 2);
        answers.due("LINES", x.count(3), 59);
    }

    private static void sixCanBeUndone() {
        answers.about("9 the last 6 can be");
        for (int changes = 0; changes <= 20; changes++) {
            SpeckValves x = cells(4);
            seenTimes(x, changes, 1L);
            int can = Math.min(changes, 6);
            answers.due("count(10) behind " + changes, x.count(10), can);
            for (int more = can - 1; more >= 0; more--) {
                answers.due("undo() behind " + changes, x.undo(), more);
                answers.due("count(10)", x.count(10), more);
                answers.due("CELLS", x.open(1), changes - can + more);
            }
            answers.due("one more behind " + changes, x.undo(), NO);
            answers.due("and again", x.undo(), NO);
            answers.due("LINES that stay", x.count(3), changes - can);
            answers.due("CELLS that stay", x.open(1), changes - can);
        }
    }

    private static void seventhOfAllKinds() {
        answers.about("9 the seventh behind six: of each kind");
        for (int kind = 0; kind < 3; kind++) {
            SpeckValves x = laid("g4,2,3,0,0;r2,5;");
            x.see(3L);
            if (kind == 0) {
                x.see(3L);
            } else if (kind == 1) {
                x.rule(0, 6);
            } else {
                x.clear();
            }
            int lines = x.count(3);
            int number = x.told(0, 1);
            for (int i = 0; i < 3; i++) {
                x.see(4L);
                x.rule(0, 10 + i);
            }
            for (int more = 5; more >= 0; more--) {
                answers.due("undo(), kind " + kind, x.undo(), more);
            }
            answers.due("the seventh, kind " + kind, x.undo(), NO);
            answers.due("LINES, kind " + kind, x.count(3), lines);
            answers.due("NUMBER, kind " + kind, x.told(0, 1), number);
        }
    }

    private static void undoneAndSeenAnew() {
        answers.about("9 UNDONE and seen anew, around the six");
        SpeckValves x = cells(4);
        seenTimes(x, 9, 1L);
        for (int back = 1; back <= 6; back++) {
            for (int i = 1; i <= back; i++) {
                answers.due("undo()", x.undo(), 6 - i);
            }
            answers.due("LINES", x.count(3), 9 - back);
            seenTimes(x, back, 1L);
            answers.due("count(10)", x.count(10), 6);
            answers.due("LINES anew", x.count(3), 9);
        }
        x.undo();
        x.see(0L);
        answers.due("what is UNDONE is gone: undo()", x.undo(), 5);
        answers.due("CELLS", x.open(1), 8);
        answers.due("an undo() is no change", x.undo(), 4);
        answers.due("CELLS", x.open(1), 7);
    }

    private static void nothingBecomesAnother() {
        answers.about("9 such by which nothing becomes another, too");
        SpeckValves x = new SpeckValves();
        x.see(0L);
        answers.due("count(10)", x.count(10), 1);
        answers.due("undo() of an empty LINE", x.undo(), 0);
        x.rule(1, 3);
        answers.due("undo() of a NUMBER by which nothing is judged", x.undo(), 0);
        x.see(0L);
        x.clear();
        answers.due("undo() of an empty LINE that was cleared", x.undo(), 1);
        answers.due("LINES", x.count(3), 1);
        seenTimes(x, 7, 0L);
        answers.due("empty LINES count among the six", x.count(10), 6);
    }

    private static void noneBehindLaid() {
        answers.about("9 behind LAID none can be");
        SpeckValves x = laid("r2,1;");
        answers.due("undo()", x.undo(), NO);
        seenTimes(x, 7, 1L);
        answers.due("lay()", x.lay(), 8);
        answers.due("count(10)", x.count(10), 0);
        answers.due("undo() behind seven and LAID", x.undo(), NO);
        x.see(1L);
        answers.due("undo() of one behind LAID", x.undo(), 0);
        answers.due("undo() of LAID", x.undo(), NO);
        x.see(1L);
        tell(x, "q2;");
        answers.due("lay() that is NO", x.lay(), NO);
        answers.due("undo() behind that", x.undo(), 0);
    }

    private static void refusedAreNoChanges() {
        answers.about("9 refused calls are no changes");
        SpeckValves x = new SpeckValves();
        x.see(1L);
        x.rule(0, 7);
        x.see(-1L);
        x.see(100000000L);
        x.rule(0, 7);
        x.rule(0, 100);
        x.rule(2, 7);
        x.lay();
        answers.due("count(10)", x.count(10), 2);
        answers.due("undo() of the NUMBER", x.undo(), 1);
        answers.due("NUMBER", x.told(0, 1), 5);
        answers.due("undo() of the LINE", x.undo(), 0);
        answers.due("clear() is NO", x.clear(), NO);
        answers.due("undo()", x.undo(), NO);
        x = cells(4);
        seenTimes(x, 60, 1L);
        x.see(1L);
        answers.due("undo() behind FULL", x.undo(), 5);
        answers.due("LINES", x.count(3), 59);
    }

    private static void lastCallOfAll() {
        answers.about("an object is used for at most 512 calls");
        SpeckValves x = new SpeckValves();
        int calls = 0;
        for (int round = 0; round < 8; round++) {
            for (int lines = 0; lines < 60; lines++) {
                answers.due("see(3) in round " + round, x.see(3L), 0);
            }
            answers.due("see(3) as LINE 61", x.see(3L), FULL);
            answers.due("clear() in round " + round, x.clear(), 60);
            calls += 62;
        }
        answers.due("undo()", x.undo(), 5);
        answers.due("undo()", x.undo(), 4);
        answers.due("see(0)", x.see(0L), 1);
        calls += 3;
        while (calls < 511) {
            answers.due("blob(0, 1)", x.blob(0, 1), 58);
            calls++;
        }
        answers.due("the call 512", x.blob(0, 4), 59);
    }
}
