/** Edges of BLOBS and how they are judged (section 2 of the document, promises 10 and 11). */
public final class BlobBoundaryTest extends Calls {
    public static void main(String[] args) {
        sideBySide();
        oneBehindTheOther();
        emptyLineBetween();
        wholeLines();
        joinedByALine();
        endedAndOpen();
        numberedAsTheyEnd();
        leftAndRight();
        meanIsCut();
        judgedByMean();
        judgedByDark();
        judgedBySize();
        judgedByTall();
        judgedByHighest();
        judgedByTheFirst();
        judgedAsRulesAreNow();
        late();
        lateAndGood();
        blobsThereAre();
        whatOfABlob();
        openIsAsked();
        answers.end();
    }

    private static SpeckValves cells(int width, String rules) {
        return laid("g" + width + "," + width + ",6,1,1;" + rules);
    }

    private static void sideBySide() {
        answers.about("2 hang together, if they are side by side in a LINE");
        for (int w = 4; w <= 16; w++) {
            for (int a = 0; a < w; a++) {
                for (int b = a + 1; b < w; b++) {
                    SpeckValves x = cells(w, "r2,99;");
                    seen(x, cellAt(w, a, 1) + cellAt(w, b, 2));
                    int want = b - a == 1 ? 1 : 2;
                    answers.due("open(0) of " + a + ", " + b + " of " + w, x.open(0), want);
                    answers.due("see(0) behind " + a + ", " + b + " of " + w, x.see(0L), want);
                }
            }
        }
    }

    private static void oneBehindTheOther() {
        answers.about("2 in LINES one behind the other at CELLS that are alike or one apart");
        for (int w : new int[] {4, 5, 15, 16}) {
            for (int a = 0; a < w; a++) {
                for (int b = 0; b < w; b++) {
                    SpeckValves x = cells(w, "r2,99;");
                    x.see(cellAt(w, a, 1));
                    boolean hang = Math.abs(a - b) <= 1;
                    answers.due("see(" + b + ") behind " + a + " of " + w, x.see(cellAt(w, b, 2)), hang ? 0 : 1);
                    answers.due("open(1) of " + a + ", " + b + " of " + w, x.open(1), hang ? 2 : 1);
                    answers.due("see(0) behind " + a + ", " + b + " of " + w, x.see(0L), 1);
                    answers.due("SIZE of " + a + ", " + b + " of " + w, x.blob(0, 4), hang ? 2 : 1);
                }
            }
        }
        SpeckValves x = cells(4, "r2,99;");
        answers.due("the last CELL is not beside CELL 0 of the LINE behind it", seen(x, 1L, 1000L), 1);
        x = cells(4, "r2,99;");
        answers.due("CELL 0 is not beside the last one of the LINE behind it", seen(x, 1000L, 1L), 1);
        x = cells(4, "r2,99;");
        answers.due("CELLS 0 and the last one of a LINE are not side by side", seen(x, 1001L, 0L), 2);
    }

    private static void emptyLineBetween() {
        answers.about("2 not with a LINE between them");
        SpeckValves x = cells(4, "r2,99;");
        answers.due("an empty LINE between", seen(x, 1L, 0L, 1L, 0L), 2);
        x = cells(4, "r2,99;");
        answers.due("a LINE with another between", seen(x, 1L, 1000L, 1L, 0L), 3);
    }

    private static void wholeLines() {
        answers.about("2 as many CELLS as there can be");
        SpeckValves x = cells(16, "r2,99;");
        seenTimes(x, 59, 9999999999999999L);
        answers.due("open(0)", x.open(0), 1);
        answers.due("open(1)", x.open(1), 59 * 16);
        answers.due("see(0)", x.see(0L), 1);
        answers.due("blob", blobOf(x, 0), 0, 58, 0, 15, 944, 9, 944, 0, 1, 1);
        x = cells(16, "r2,99;");
        answers.due("every second CELL", seen(x, 1010101010101010L), 0);
        answers.due("open(0)", x.open(0), 8);
        answers.due("those between", seen(x, 101010101010101L), 0);
        answers.due("open(0) is one", x.open(0), 1);
        answers.due("open(1)", x.open(1), 16);
        x = cells(16, "r2,99;");
        // Eight that go on and end at once: nothing of them lies near another.
        answers.due("eight that are tall", seenTimes(x, 30, 101010101010101L), 0);
        answers.due("open(0)", x.open(0) * 1000 + x.open(1), 8240);
        answers.due("all end", x.see(0L), 8);
    }

    private static void joinedByALine() {
        answers.about("2 BLOBS that hang together by it are one from then on");
        SpeckValves x = cells(5, "r2,99;");
        answers.due("two apart", seen(x, 10001L, 1000L), 1);
        x = cells(5, "r2,99;");
        answers.due("joined from both sides", seen(x, 10100L, 1000L), 0);
        answers.due("open(0)", x.open(0), 1);
        answers.due("one ends", x.see(0L), 1);
        answers.due("joined", blobOf(x, 0), 0, 1, 0, 2, 3, 1, 0, NONE, 0, 0);
        x = cells(7, "r2,99;");
        // What hung together ahead stays one, though its CELLS in the last LINE lie apart.
        answers.due("an arch", seen(x, 1110000L, 1010000L, 1000000L), 0);
        answers.due("open(0)", x.open(0), 1);
        answers.due("another beside it", seen(x, 1000001L, 1L), 1);
        answers.due("the arch", blobOf(x, 0), 0, 3, 0, 2, 7, 1, 0, NONE, 0, 0);
        x = cells(9, "r2,99;");
        answers.due("three legs, joined one after the other", seen(x, 100010001L, 110010001L, 11110001L, 1001L), 0);
        answers.due("open(0)", x.open(0), 2);
        answers.due("all", seen(x, 111L, 0L), 1);
        answers.due("all are one", x.blob(0, 4), 3 + 4 + 5 + 2 + 3);
    }

    private static void endedAndOpen() {
        answers.about("2 ENDED: CELLS in the LINE ahead and none in it");
        SpeckValves x = cells(4, "r2,99;");
        answers.due("see(0) at first", x.see(0L), 0);
        answers.due("see(1)", x.see(1L), 0);
        answers.due("ENDED, open", x.count(4) * 10 + x.open(0), 1);
        answers.due("see(1)", x.see(1L), 0);
        answers.due("see(1000) ends it", x.see(1000L), 1);
        answers.due("ENDED, open", x.count(4) * 10 + x.open(0), 11);
        answers.due("see(0) ends the other", x.see(0L), 1);
        answers.due("see(0) ends none", x.see(0L), 0);
        answers.due("ENDED, open", x.count(4) * 10 + x.open(0), 20);
        answers.due("FIRST, LAST", x.blob(0, 0) * 10 + x.blob(0, 1), 12);
    }

    private static void numberedAsTheyEnd() {
        answers.about("2 of those of one TICK that which BEGAN first, then by the lowest CELL");
        SpeckValves x = cells(8, "r2,99;");
        seen(x, 10101010L, 0L);
        for (int b = 0; b < 4; b++) {
            answers.due("of one LINE: blob " + b, x.blob(b, 2), 2 * b);
        }
        for (int tall = 2; tall <= 9; tall++) {
            x = cells(8, "r2,99;");
            seenTimes(x, tall, 10101010L);
            x.see(0L);
            for (int b = 0; b < 4; b++) {
                answers.due("of one LINE, TALL " + tall + ": blob " + b, x.blob(b, 2), 2 * b);
            }
        }
        x = cells(8, "r2,99;");
        seen(x, 1L, 101L, 10101L, 1010101L, 0L);
        for (int b = 0; b < 4; b++) {
            answers.due("by the first LINE: blob " + b, x.blob(b, 0) * 10 + x.blob(b, 2), b * 10 + 7 - 2 * b);
        }
        x = cells(8, "r2,99;");
        seen(x, 1L, 101L, 10101L, 1010100L, 1010000L, 1000000L, 0L);
        answers.due("by their end ahead of that", x.blob(0, 2) * 100 + x.blob(1, 2) * 10 + x.blob(2, 2), 753);
        x = cells(8, "r2,99;");
        // LEFT is lower than that of the other, but not in its first LINE.
        seen(x, 10010L, 1100010L, 10000010L, 10L, 0L);
        answers.due("ENDED first", blobOf(x, 0), 0, 2, 0, 3, 4, 1, 0, NONE, 0, 0);
        x = cells(8, "r2,99;");
        seen(x, 1001000L, 110100L, 110L, 0L);
        answers.due("all are one", x.count(4) * 10 + x.blob(0, 4), 17);
        x = cells(8, "r2,99;");
        seen(x, 101000L, 10010000L, 10001000L, 0L);
        answers.due("the first LINE counts, not LEFT", x.blob(0, 0) * 10 + x.blob(0, 2), 2);
        answers.due("that which BEGAN later comes behind", x.blob(1, 0) * 10 + x.blob(1, 2), 10);
    }

    private static void leftAndRight() {
        answers.about("2 LEFT, RIGHT: lowest and highest CELL of all LINES");
        SpeckValves x = cells(8, "r2,99;");
        seen(x, 1000L, 10000L, 100000L, 10000L, 1000L, 100L, 1000L, 0L);
        answers.due("there and back", blobOf(x, 0), 0, 6, 2, 5, 7, 1, 0, NONE, 0, 0);
        x = cells(4, "r2,99;");
        seen(x, 1L, 10L, 100L, 1000L, 0L);
        answers.due("from edge to edge", blobOf(x, 0), 0, 3, 0, 3, 4, 1, 0, NONE, 0, 0);
    }

    private static void meanIsCut() {
        answers.about("2 MEAN: their COLOURS together by SIZE, cut");
        long[][] means = {{1, 1}, {9, 9}, {12, 1}, {21, 1}, {13, 2}, {89, 8}, {98, 8}, {99, 9}, {9998, 8}, {1112, 1},
            {1999, 7}, {2111, 1}, {2221, 1}, {2222, 2}, {888, 8}, {889, 8}, {899, 8}};
        for (long[] mean : means) {
            SpeckValves x = cells(4, "r0,9;");
            seen(x, mean[0], 0L);
            answers.due("MEAN of " + mean[0], x.blob(0, 5), mean[1]);
            answers.due("RULE of " + mean[0], x.blob(0, 7), mean[1] == 9 ? 0 : NONE);
        }
    }

    private static void judged(String rule, int want, long... lines) {
        SpeckValves x = laid("g16,16,6,1,1;" + rule);
        seen(x, lines);
        answers.due(rule + " of " + lines.length + " LINES " + lines[0] + ": RULE", x.blob(0, 7), want);
        answers.due(rule + " of " + lines.length + " LINES " + lines[0] + ": BAD ones", x.count(5), want == NONE ? 0 : 1);
    }

    private static void judgedByMean() {
        answers.about("2 BAD: MEAN that is the NUMBER or more");
        for (int colour = 1; colour <= 9; colour++) {
            for (int number = 1; number <= 99; number++) {
                judged("r0," + number + ";", colour >= number ? 0 : NONE, colour, 0L);
            }
        }
    }

    private static void judgedByDark() {
        answers.about("2 BAD: DARK that is the NUMBER or more");
        judged("r1,1;", NONE, 6666L, 0L);
        judged("r1,1;", 0, 6667L, 0L);
        judged("r1,2;", NONE, 6667L, 0L);
        judged("r1,2;", 0, 6677L, 0L);
        judged("r1,2;", 0, 9677L, 0L);
        judged("d9;r1,1;", NONE, 8888L, 0L);
        judged("d9;r1,1;", 0, 8889L, 0L);
        judged("d1;r1,4;", 0, 1111L, 0L);
        judged("d1;r1,5;", NONE, 1111L, 0L);
    }

    private static void judgedBySize() {
        answers.about("2 BAD: SIZE that is the NUMBER or more");
        for (int size = 1; size <= 16; size++) {
            long line = (tenTo(size) - 1) / 9;
            judged("r2," + size + ";", 0, line, 0L);
            judged("r2," + (size + 1) + ";", NONE, line, 0L);
        }
        long sixteen = 1111111111111111L;
        judged("r2,99;", NONE, sixteen, sixteen, sixteen, sixteen, sixteen, sixteen, 11L, 0L);
        judged("r2,99;", 0, sixteen, sixteen, sixteen, sixteen, sixteen, sixteen, 111L, 0L);
    }

    private static void judgedByTall() {
        answers.about("2 BAD: TALL that is the NUMBER or more");
        for (int tall = 1; tall <= 59; tall++) {
            for (int number = tall; number <= tall + 1; number++) {
                SpeckValves x = cells(4, "r3," + number + ";");
                seenTimes(x, tall, 11L);
                x.see(0L);
                answers.due("TALL " + tall + " by " + number, x.blob(0, 7), number == tall ? 0 : NONE);
            }
        }
        judged("r3,2;", NONE, 1111111111111111L, 0L);
        judged("r3,2;", 0, 1L, 1L, 0L);
    }

    private static void judgedByHighest() {
        answers.about("2 GOOD, if there is none");
        SpeckValves x = laid("g4,4,6,1,1;r0,10;r0,99;r1,99;r3,60;");
        seenTimes(x, 24, 9999L);
        x.see(0L);
        answers.due("no MEAN is 10, 24 LINES have 96 DARK", x.blob(0, 7), NONE);
        answers.due("LATE", x.blob(0, 8), 0);
        x.clear();
        seenTimes(x, 25, 9999L);
        x.see(0L);
        answers.due("100 DARK", x.blob(0, 7), 2);
    }

    private static void judgedByTheFirst() {
        answers.about("2 the first RULE for which it has");
        for (int k = 0; k < 4; k++) {
            SpeckValves x = cells(4, "r2,1;r2,1;r2,1;r2,1;");
            for (int before = 0; before < k; before++) {
                x.rule(before, 2);
            }
            seen(x, 1L, 0L);
            answers.due("RULE", x.blob(0, 7), k);
            for (int asked = 0; asked < 4; asked++) {
                answers.due("told(" + asked + ", 2)", x.told(asked, 2), asked == k ? 1 : 0);
            }
            answers.due("BAD ones", x.count(5), 1);
        }
        SpeckValves x = cells(4, "r0,9;r2,3;r3,2;r1,1;");
        seen(x, 9L, 0L, 111L, 0L, 1L, 1L, 0L, 17L, 0L, 8L, 0L, 6L, 0L);
        int[] want = {0, 1, 2, 3, 3, NONE};
        for (int b = 0; b < 6; b++) {
            answers.due("RULE of blob " + b, x.blob(b, 7), want[b]);
        }
    }

    private static void judgedAsRulesAreNow() {
        answers.about("judged by RULES as they are now");
        SpeckValves x = cells(4, "r2,3;");
        seen(x, 11L, 0L);
        answers.due("GOOD", x.blob(0, 7), NONE);
        x.rule(0, 2);
        answers.due("BAD anew", x.blob(0, 7), 0);
        x.undo();
        answers.due("GOOD again", x.blob(0, 7), NONE);
        x.rule(0, 2);
        x.clear();
        seen(x, 11L, 0L);
        answers.due("BAD behind clear()", x.blob(0, 7), 0);
        x.lay();
        seen(x, 11L, 0L);
        answers.due("GOOD behind lay()", x.blob(0, 7), NONE);
    }

    private static void late() {
        answers.about("2 LATE, if FIRST and FALL less AHEAD is less than e");
        for (int fall = 0; fall <= 20; fall++) {
            for (int ahead = 0; ahead <= 5; ahead++) {
                for (int tall : new int[] {1, 2, 15, 16, 20, 21}) {
                    SpeckValves x = laid("g4,4," + fall + "," + ahead + ",0;r2,1;");
                    seen(x, 0L, 0L);
                    seenTimes(x, tall, 1L);
                    x.see(0L);
                    // FIRST is 2 and e is 2 and TALL.
                    int want = fall - ahead < tall ? 1 : 0;
                    String of = " of FALL " + fall + ", AHEAD " + ahead + ", TALL " + tall;
                    answers.due("LATE" + of, x.blob(0, 8), want);
                    answers.due("LATE ones" + of, x.count(6), want);
                }
            }
        }
        SpeckValves x = laid("g4,4,1,0,0;r2,1;");
        seen(x, 1L, 0L);
        answers.due("at e itself it is in time", x.blob(0, 8), 0);
        x = laid("g4,4,0,0,0;r2,1;");
        seen(x, 1L, 0L);
        answers.due("a TICK ahead of e it is LATE", x.blob(0, 8), 1);
    }

    private static void lateAndGood() {
        answers.about("10 LATE of a GOOD one: 0");
        SpeckValves x = laid("g4,4,0,5,0;r2,2;");
        seen(x, 1L, 0L, 11L, 0L);
        answers.due("of a GOOD one", x.blob(0, 8), 0);
        answers.due("of a BAD one", x.blob(1, 8), 1);
        answers.due("LATE ones", x.count(6), 1);
    }

    private static void blobsThereAre() {
        answers.about("10 BAD: BLOBS such as there are");
        SpeckValves x = cells(4, "r2,99;");
        for (int ended = 0; ended < 24; ended++) {
            for (int b : new int[] {-1, ended, ended + 1, 31}) {
                answers.due("blob(" + b + ", 0) of " + ended, x.blob(b, 0), BAD);
            }
            answers.due("blob(" + (ended - 1) + ", 4)", x.blob(ended - 1, 4), ended == 0 ? BAD : 1);
            x.see(1L);
            answers.due("one that is open has no number", x.blob(ended, 0), BAD);
            x.see(0L);
        }
        for (int b : new int[] {24, LEAST, LEAST + 1, MOST, 256, 65536}) {
            answers.due("blob(" + b + ", 0)", x.blob(b, 0), BAD);
        }
        answers.due("blob(23, 0)", x.blob(23, 0), 46);
        x.undo();
        answers.due("blob(23, 0), UNDONE", x.blob(23, 0), BAD);
        answers.due("blob(22, 0)", x.blob(22, 0), 44);
    }

    private static void whatOfABlob() {
        answers.about("10 what = 0 to 9");
        SpeckValves x = cells(4, "r2,1;");
        seen(x, 12L, 0L);
        answers.due("all", blobOf(x, 0), 0, 0, 2, 3, 2, 1, 0, 0, 0, 1);
        for (int what : new int[] {-1, 10, LEAST, MOST, 256, 65536, -2, 11}) {
            answers.due("blob(0, " + what + ")", x.blob(0, what), BAD);
            answers.due("blob(1, " + what + ")", x.blob(1, what), BAD);
        }
        for (int what = 0; what <= 9; what++) {
            answers.due("blob(1, " + what + ")", x.blob(1, what), BAD);
            answers.due("blob(-1, " + what + ")", x.blob(-1, what), BAD);
        }
    }

    private static void openIsAsked() {
        answers.about("11 of those that have not ENDED");
        SpeckValves x = cells(4, "r2,1;");
        for (int what : new int[] {-1, 2, LEAST, MOST, 256}) {
            answers.due("open(" + what + ")", x.open(what), BAD);
        }
        answers.due("of none", x.open(0) + x.open(1), 0);
        x.see(9L);
        answers.due("of one", x.open(0) * 10 + x.open(1), 11);
        x.see(1009L);
        answers.due("of two", x.open(0) * 10 + x.open(1), 23);
        x.see(1000L);
        answers.due("of one that goes on", x.open(0) * 10 + x.open(1), 12);
        answers.due("undo()", x.undo(), 2);
        answers.due("of two again", x.open(0) * 10 + x.open(1), 23);
    }
}
