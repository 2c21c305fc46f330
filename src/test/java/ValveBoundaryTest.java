/** Edges of VALVES: which are wanted and when, OPENINGS, REST, BLOWN (section 2 of the document, promises 10, 12, 13). */
public final class ValveBoundaryTest extends Calls {
    public static void main(String[] args) {
        overWhichCells();
        overLeftToRight();
        wantedFromTo();
        notAheadOfTheEnd();
        notAtAll();
        goodOnesWantNothing();
        restBetween();
        restBetweenMany();
        sideBySideAndLapping();
        joinedAcrossWhatIsOver();
        latestTick();
        asManyAsCanBe();
        valvesThereAre();
        openingsThereAre();
        badComesAheadOfNone();
        ticksOpen();
        blownAtItsTicks();
        blownByAValveOverIt();
        blownOrLet();
        openOnesAreNotJudged();
        answers.end();
    }

    private static void overWhichCells() {
        answers.about("VALVE j is over W by V CELLS, from j times that on");
        for (int w = 4; w <= 16; w++) {
            for (int v = 1; v <= w; v++) {
                for (int cell = 0; cell < w && w % v == 0; cell++) {
                    SpeckValves x = laid("g" + w + "," + v + ",6,0,0;r2,1;");
                    seen(x, cellAt(w, cell, 1), 0L);
                    for (int j = 0; j < v; j++) {
                        boolean isOver = cell >= j * (w / v) && cell < (j + 1) * (w / v);
                        answers.due("air(" + j + ") of CELL " + cell + ", " + w + " by " + v, x.air(j), isOver ? 1 : 0);
                    }
                    answers.due("BLOWN at CELL " + cell + ", " + w + " by " + v, x.blob(0, 9), 1);
                }
            }
        }
    }

    private static void overLeftToRight() {
        answers.about("2 the VALVES over CELLS LEFT to RIGHT (all that are over one of them)");
        for (int left = 0; left < 12; left++) {
            for (int right = left; right < 12; right++) {
                SpeckValves x = laid("g12,4,6,0,0;r2,1;");
                seen(x, (tenTo(right - left + 1) - 1) / 9 * tenTo(11 - right), 0L);
                for (int j = 0; j < 4; j++) {
                    boolean isOver = 3 * j <= right && 3 * j + 2 >= left;
                    answers.due("air(" + j + ") of " + left + " to " + right, x.air(j), isOver ? 1 : 0);
                }
            }
        }
        SpeckValves x = laid("g8,8,6,0,0;r3,3;");
        seen(x, 10000L, 1000000L, 0L, 10000L, 100000L, 1000000L, 0L);
        answers.due("two CELLS apart are no BLOB of three LINES", x.count(5), 1);
        for (int j = 0; j < 8; j++) {
            answers.due("of all LINES, air(" + j + ")", x.air(j), j >= 1 && j <= 3 ? 3 : 0);
        }
    }

    /** One BLOB of some LINES from TICK 0 on, BAD by TALL. */
    private static SpeckValves tallOne(int fall, int ahead, int behind, int tall) {
        SpeckValves x = laid("g4,2," + fall + "," + ahead + "," + behind + ";r3,1;q0;");
        seenTimes(x, tall, 1000L);
        x.see(0L);
        return x;
    }

    private static void wantedFromTo() {
        answers.about("2 open from FIRST and FALL less AHEAD to LAST and FALL and BEHIND");
        for (int fall = 0; fall <= 20; fall++) {
            for (int ahead = 0; ahead <= 5; ahead++) {
                for (int behind = 0; behind <= 5; behind++) {
                    wantedOf(fall, ahead, behind, 1);
                    wantedOf(fall, ahead, behind, 4);
                }
            }
        }
        answers.due("the nearest", openingsOf(tallOne(1, 0, 0, 1), 0), 1, 1);
        answers.due("the widest of one LINE", openingsOf(tallOne(20, 5, 5, 1), 0), 15, 25);
        answers.due("no AHEAD, no BEHIND", openingsOf(tallOne(20, 0, 0, 1), 0), 20, 20);
        answers.due("of twenty LINES", openingsOf(tallOne(20, 0, 0, 20), 0), 20, 39);
    }

    private static void wantedOf(int fall, int ahead, int behind, int tall) {
        SpeckValves x = tallOne(fall, ahead, behind, tall);
        String of = " of FALL " + fall + ", AHEAD " + ahead + ", BEHIND " + behind + ", TALL " + tall;
        int from = Math.max(fall - ahead, tall);
        int to = tall - 1 + fall + behind;
        if (to < tall) {
            answers.due("openings" + of, openingsOf(x, 0), new int[0]);
        } else {
            answers.due("openings" + of, openingsOf(x, 0), from, to);
        }
        answers.due("air(0)" + of, x.air(0), to < tall ? 0 : to - from + 1);
        answers.due("openings of the other" + of, openingsOf(x, 1), new int[0]);
        answers.due("BLOWN" + of, x.blob(0, 9), fall > 0 ? 1 : 0);
    }

    private static void notAheadOfTheEnd() {
        answers.about("2 but not ahead of e");
        answers.due("FIRST and FALL less AHEAD is a TICK behind e", openingsOf(tallOne(5, 0, 0, 4), 0), 5, 8);
        answers.due("it is e", openingsOf(tallOne(4, 0, 0, 4), 0), 4, 7);
        answers.due("it is a TICK ahead of e", openingsOf(tallOne(3, 0, 0, 4), 0), 4, 6);
        answers.due("it is e by AHEAD", openingsOf(tallOne(9, 5, 0, 4), 0), 4, 12);
        answers.due("it is a TICK ahead of e by AHEAD", openingsOf(tallOne(8, 5, 0, 4), 0), 4, 11);
        answers.due("it is below 0", openingsOf(tallOne(0, 5, 5, 1), 0), 1, 5);
    }

    private static void notAtAll() {
        answers.about("2 not at all, if that is ahead of e");
        answers.due("LAST and FALL and BEHIND is a TICK ahead of e", openingsOf(tallOne(0, 5, 0, 4), 0), new int[0]);
        answers.due("it is e by FALL", openingsOf(tallOne(1, 5, 0, 4), 0), 4, 4);
        answers.due("it is e by BEHIND", openingsOf(tallOne(0, 5, 1, 4), 0), 4, 4);
        answers.due("it is a TICK behind e", openingsOf(tallOne(1, 5, 1, 4), 0), 4, 5);
        SpeckValves x = tallOne(0, 0, 0, 1);
        answers.due("nothing is wanted: BAD, LATE, BLOWN, LET, LOST", x.count(5) * 10000 + x.count(6) * 1000
                + x.count(7) * 100 + x.count(8) * 10 + x.count(9), 11010);
    }

    private static void goodOnesWantNothing() {
        answers.about("2 GOOD ones want nothing");
        SpeckValves x = laid("g4,2,6,1,1;r2,2;");
        seen(x, 1L, 0L);
        answers.due("openings", x.opening(0, -1, 0) + x.opening(1, -1, 0), 0);
        answers.due("BLOWN", x.blob(0, 9), 0);
    }

    /** Two BLOBS of one LINE each, with some TICKS between their OPENINGS. */
    private static SpeckValves twoWith(int rest, int between) {
        SpeckValves x = laid("g4,1,5,0,0;r2,1;q" + rest + ";");
        x.see(1000L);
        seenTimes(x, between, 0L);
        seen(x, 1L, 0L);
        return x;
    }

    private static void restBetween() {
        answers.about("2 two between which there are fewer than REST TICKS are one");
        for (int rest = 0; rest <= 9; rest++) {
            for (int between = 0; between <= 11; between++) {
                int[] got = openingsOf(twoWith(rest, between), 0);
                String of = "REST " + rest + ", between " + between;
                if (between < rest || between == 0) {
                    answers.due(of, got, 5, 6 + between);
                } else {
                    answers.due(of, got, 5, 5, 6 + between, 6 + between);
                }
            }
        }
    }

    private static void restBetweenMany() {
        answers.about("2 one by REST, one behind the other");
        SpeckValves x = laid("g4,1,5,0,0;r2,1;q3;");
        seen(x, 1L, 0L, 0L, 1L, 0L, 0L, 1L, 0L, 0L, 0L, 1L, 0L);
        answers.due("three with two between, a fourth with three", openingsOf(x, 0), 5, 11, 15, 15);
        x = laid("g4,1,5,0,0;r2,1;q4;");
        seen(x, 1L, 0L, 0L, 1L, 0L, 0L, 1L, 0L, 0L, 0L, 1L, 0L);
        answers.due("all four", openingsOf(x, 0), 5, 15);
        x = laid("g4,2,5,0,0;r2,1;q9;");
        seen(x, 1000L, 0L, 1L, 0L);
        answers.due("REST is of a VALVE: 0", openingsOf(x, 0), 5, 5);
        answers.due("REST is of a VALVE: 1", openingsOf(x, 1), 7, 7);
    }

    private static void sideBySideAndLapping() {
        answers.about("2 side by side ones and such that lap, too");
        answers.due("side by side, REST 0", openingsOf(twoWith(0, 0), 0), 5, 6);
        answers.due("one between, REST 0", openingsOf(twoWith(0, 1), 0), 5, 5, 7, 7);
        SpeckValves x = laid("g4,1,5,1,1;r2,1;q0;");
        seen(x, 1000L, 0L, 1L, 0L);
        answers.due("4 to 6 and 6 to 8 lap by a TICK", openingsOf(x, 0), 4, 8);
        x = laid("g4,1,5,1,1;r2,1;q0;");
        seen(x, 1000L, 0L, 0L, 1L, 0L);
        answers.due("4 to 6 and 7 to 9 are side by side", openingsOf(x, 0), 4, 9);
        x = laid("g4,1,5,1,1;r2,1;q0;");
        seen(x, 1000L, 0L, 0L, 0L, 1L, 0L);
        answers.due("4 to 6 and 8 to 10", openingsOf(x, 0), 4, 6, 8, 10);
        x = laid("g4,1,5,1,1;r2,1;q0;");
        seen(x, 1001L, 0L);
        answers.due("two at once", openingsOf(x, 0), 4, 6);
        x = laid("g4,1,9,0,0;r2,1;q0;");
        // The tall one is wanted 9 to 15, those beside it 11 and 13; one at TICK 9 comes at 18.
        seen(x, 1000L, 1000L, 1001L, 1000L, 1001L, 1000L, 1000L, 0L, 0L, 1L, 0L);
        answers.due("one within another", openingsOf(x, 0), 9, 15, 18, 18);
    }

    private static void joinedAcrossWhatIsOver() {
        answers.about("2 one, from the first TICK to the last one of both");
        SpeckValves x = laid("g4,1,1,0,0;r2,1;q9;");
        // Wanted at 1, and, seen at TICK 9 only, at 9: seven TICKS between them are over then.
        seen(x, 1L, 0L, 0L, 0L, 0L, 0L, 0L, 0L, 1L, 0L);
        answers.due("seven between", openingsOf(x, 0), 1, 9);
        answers.due("air(0)", x.air(0), 9);
        x = laid("g4,1,1,0,0;r2,1;q7;");
        seen(x, 1L, 0L, 0L, 0L, 0L, 0L, 0L, 0L, 1L, 0L);
        answers.due("seven between, REST 7", openingsOf(x, 0), 1, 1, 9, 9);
        answers.due("air(0)", x.air(0), 2);
    }

    private static void latestTick() {
        answers.about("2 the latest TICKS that can be");
        SpeckValves x = laid("g4,4,20,0,5;r2,1;");
        seenTimes(x, 58, 0L);
        seen(x, 1L, 0L);
        answers.due("openings", openingsOf(x, 3), 78, 83);
        answers.due("air(3)", x.air(3), 6);
        x = laid("g16,1,20,5,5;r3,59;");
        seenTimes(x, 59, 9999999999999999L);
        x.see(0L);
        answers.due("a BLOB of 59 LINES", openingsOf(x, 0), 59, 83);
        answers.due("LATE, BLOWN", x.blob(0, 8) * 10 + x.blob(0, 9), 11);
    }

    private static void asManyAsCanBe() {
        answers.about("12 as many OPENINGS as can be");
        SpeckValves x = laid("g4,1,5,0,0;r2,1;q1;");
        seenTimes(x, 24, 1L, 0L);
        answers.due("how many", x.opening(0, -1, 0), 24);
        for (int k = 0; k < 24; k++) {
            answers.due("first TICK of " + k, x.opening(0, k, 0), 5 + 2 * k);
            answers.due("last TICK of " + k, x.opening(0, k, 1), 5 + 2 * k);
        }
        answers.due("one more", x.opening(0, 24, 0), NONE);
        answers.due("air(0)", x.air(0), 24);
        x = laid("g4,1,5,0,0;r2,1;q2;");
        seenTimes(x, 24, 1L, 0L);
        answers.due("all are one", openingsOf(x, 0), 5, 51);
        x = laid("g16,16,5,0,0;r2,1;");
        seenTimes(x, 2, 1010101010101010L, 0L, 0L, 0L);
        seen(x, 1010101010101000L, 0L, 0L, 0L, 1010101010101010L, 0L);
        answers.due("31 ENDED", x.count(4), 31);
        for (int j = 0; j < 16; j++) {
            answers.due("openings of " + j, x.opening(j, -1, 0), j % 2 == 1 ? 0 : j == 14 ? 3 : 4);
        }
        answers.due("31 BLOWN", x.count(7), 31);
    }

    private static void valvesThereAre() {
        answers.about("12, 13 BAD: VALVES such as there are");
        for (int v : new int[] {1, 2, 4, 8, 16}) {
            SpeckValves x = laid("g16," + v + ",6,1,1;r2,1;");
            for (int j : new int[] {-1, v, v + 1, 16, 17, LEAST, MOST, 256}) {
                answers.due("air(" + j + ") of " + v, x.air(j), BAD);
                answers.due("opening(" + j + ", -1, 0) of " + v, x.opening(j, -1, 0), BAD);
                answers.due("opening(" + j + ", 0, 1) of " + v, x.opening(j, 0, 1), BAD);
            }
            for (int j = 0; j < v; j++) {
                answers.due("air(" + j + ") of " + v, x.air(j), 0);
                answers.due("opening(" + j + ", -1, 0) of " + v, x.opening(j, -1, 0), 0);
            }
        }
    }

    private static void openingsThereAre() {
        answers.about("12 how many (k = -1), the k-th, NONE: not so many; what is 0, 1 always");
        SpeckValves x = laid("g4,2,5,0,0;r2,1;q0;");
        answers.due("how many of none", x.opening(0, -1, 0) + x.opening(0, -1, 1), 0);
        answers.due("the first of none", x.opening(0, 0, 0), NONE);
        answers.due("the first of none, what = 1", x.opening(0, 0, 1), NONE);
        seen(x, 1000L, 0L, 1000L, 1000L, 0L);
        answers.due("how many", x.opening(0, -1, 0), 2);
        answers.due("how many, what = 1", x.opening(0, -1, 1), 2);
        answers.due("the earliest first", x.opening(0, 0, 0) * 10 + x.opening(0, 0, 1), 55);
        answers.due("the last one", x.opening(0, 1, 0) * 10 + x.opening(0, 1, 1), 78);
        for (int k : new int[] {2, 3, 24, 31, 32, 1000, MOST}) {
            answers.due("opening(0, " + k + ", 0)", x.opening(0, k, 0), NONE);
            answers.due("opening(0, " + k + ", 1)", x.opening(0, k, 1), NONE);
            answers.due("opening(1, " + k + ", 0)", x.opening(1, k, 0), NONE);
        }
        x.rule(0, 3);
        answers.due("GOOD anew: how many", x.opening(0, -1, 0), 0);
        answers.due("GOOD anew: the first", x.opening(0, 0, 0), NONE);
    }

    private static void badComesAheadOfNone() {
        answers.about("12 BAD (k below -1), ahead of NONE");
        SpeckValves x = laid("g4,2,5,0,0;r2,1;");
        for (int round = 0; round < 2; round++) {
            int[][] wrong = {{0, -2, 0}, {0, -3, 1}, {0, LEAST, 0}, {0, -1, 2}, {0, -1, -1}, {0, 0, 2}, {0, 0, -1}, {0, 0, LEAST},
                {0, 0, MOST}, {0, 99, 2}, {0, MOST, -1}, {2, 99, 0}, {-1, 99, 1}, {2, -2, 2}, {LEAST, LEAST, LEAST}, {MOST, MOST, MOST}};
            for (int[] w : wrong) {
                answers.due("opening(" + w[0] + ", " + w[1] + ", " + w[2] + ")", x.opening(w[0], w[1], w[2]), BAD);
            }
            seen(x, 1000L, 0L);
        }
    }

    private static void ticksOpen() {
        answers.about("13 TICKS in which a VALVE is open");
        answers.due("of one TICK", tallOne(1, 0, 0, 1).air(0), 1);
        answers.due("of none", tallOne(0, 0, 0, 1).air(0), 0);
        answers.due("of eleven", tallOne(20, 5, 5, 1).air(0), 11);
        answers.due("with REST between, that are one", twoWith(3, 2).air(0), 4);
        answers.due("with REST between, that are two", twoWith(2, 2).air(0), 2);
        SpeckValves x = laid("g4,1,5,1,1;r2,1;q0;");
        seen(x, 1001L, 0L, 1L, 0L);
        answers.due("TICKS that lap count once", x.air(0), 5);
    }

    /** A BAD one at TICK 8 wants TICKS 12 to 16 open; a GOOD one of some LINES beside it. */
    private static int goodIsBlown(int first, int last) {
        SpeckValves x = laid("g8,1,6,2,2;r1,1;q0;");
        for (int tick = 0; tick <= 20; tick++) {
            x.see((tick == 8 ? 90000000L : 0L) + (tick >= first && tick <= last ? 1L : 0L));
        }
        answers.due("the BAD one alone is open", openingsOf(x, 0), 12, 16);
        int good = x.blob(0, 7) == NONE ? 0 : 1;
        answers.due("LOST", x.count(9), x.blob(good, 9));
        answers.due("gain()", x.gain(), ZERO + (x.blob(good, 9) == 1 ? 0 : last - first + 1));
        return x.blob(good, 9);
    }

    private static void blownAtItsTicks() {
        answers.about("2 BLOWN: open at a TICK from FIRST and FALL to LAST and FALL");
        answers.due("passes at 11", goodIsBlown(5, 5), 0);
        answers.due("passes at 12", goodIsBlown(6, 6), 1);
        answers.due("passes at 16", goodIsBlown(10, 10), 1);
        answers.due("passes at 17", goodIsBlown(11, 11), 0);
        answers.due("passes at 8 to 11", goodIsBlown(2, 5), 0);
        answers.due("passes at 8 to 12", goodIsBlown(2, 6), 1);
        answers.due("passes at 16 to 20", goodIsBlown(10, 14), 1);
        answers.due("passes at 17 to 20", goodIsBlown(11, 14), 0);
        answers.due("passes at 13 to 15", goodIsBlown(7, 9), 1);
        answers.due("passes at 8 to 20", goodIsBlown(2, 14), 1);
    }

    private static void blownByAValveOverIt() {
        answers.about("2 BLOWN: a VALVE that is over one of CELLS LEFT to RIGHT");
        for (int cell = 0; cell < 12; cell++) {
            for (int length = 1; cell + length <= 12; length++) {
                SpeckValves x = laid("g12,4,6,1,1;r1,1;");
                long good = (tenTo(length) - 1) / 9 * tenTo(12 - cell - length);
                // The BAD one is under VALVE 1 (CELLS 3 to 5), which is open from 5 to 7 for it.
                seen(x, cellAt(12, 4, 9), 0L, good, 0L);
                answers.due("passes at 8, " + cell + " for " + length, x.blob(1, 9), 0);
                x.clear();
                seen(x, cellAt(12, 4, 9), good, 0L);
                boolean isOver = cell <= 5 && cell + length - 1 >= 3;
                boolean isOne = x.count(4) == 1;
                answers.due("passes at 7, " + cell + " for " + length, x.blob(isOne ? 0 : 1, 9), isOver || isOne ? 1 : 0);
            }
        }
    }

    private static void blownOrLet() {
        answers.about("2 LET: BAD and not BLOWN; LOST: GOOD and BLOWN");
        SpeckValves x = tallOne(0, 0, 5, 1);
        answers.due("open, but behind it", openingsOf(x, 0), 1, 5);
        answers.due("BLOWN, LET, LOST", x.count(7) * 100 + x.count(8) * 10 + x.count(9), 10);
        x = tallOne(1, 0, 0, 1);
        answers.due("open for it", x.count(7) * 100 + x.count(8) * 10 + x.count(9), 100);
        x = laid("g4,1,0,0,5;r1,1;");
        // A BAD one at TICK 0 is open from 1 to 5 only: it is LET, and a GOOD one at TICK 2 is LOST.
        seen(x, 9L, 0L, 1L, 0L);
        answers.due("the wrong one is BLOWN", x.count(7) * 100 + x.count(8) * 10 + x.count(9), 111);
        x.rule(0, 2);
        answers.due("none is", x.count(7) * 100 + x.count(8) * 10 + x.count(9), 0);
    }

    private static void openOnesAreNotJudged() {
        answers.about("2 what has not ENDED wants nothing");
        SpeckValves x = laid("g4,1,6,0,0;r2,1;");
        seenTimes(x, 60, 9999L);
        answers.due("openings", x.opening(0, -1, 0), 0);
        answers.due("BAD, LATE, BLOWN, LET, LOST", x.count(5) + x.count(6) + x.count(7) + x.count(8) + x.count(9), 0);
        answers.due("gain()", x.gain(), ZERO);
        answers.due("told(0, 2)", x.told(0, 2), 0);
        x.undo();
        x.see(0L);
        answers.due("ENDED: openings", openingsOf(x, 0), 59, 64);
    }
}
