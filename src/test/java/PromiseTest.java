/** Each promise of the document by itself: ordinary inputs, the edges it names, wrong inputs. */
public final class PromiseTest extends Calls {
    public static void main(String[] args) {
        newObject();
        write();
        wipe();
        fault();
        faultOfSeveral();
        lay();
        laySettings();
        see();
        seeFull();
        seeManyEnd();
        rule();
        clear();
        undo();
        undoOfAllChanges();
        blobJoined();
        blobApart();
        blobOrder();
        blobJudged();
        blobLate();
        open();
        openingRest();
        openingOfValves();
        openingOfTheLate();
        air();
        blownByOthers();
        gain();
        best();
        bestOfSeveral();
        count();
        told();
        answers.end();
    }

    private static void newObject() {
        answers.about("1 a new object");
        SpeckValves x = new SpeckValves();
        answers.due("counts", countsOf(x), 8, 4, 2, 0, 0, 0, 0, 0, 0, 0, 0, 0);
        answers.due("told(0, 0)", x.told(0, 0), 0);
        answers.due("told(0, 1)", x.told(0, 1), 5);
        answers.due("told(1, 0)", x.told(1, 0), 1);
        answers.due("told(1, 1)", x.told(1, 1), 2);
        answers.due("told(2, 0)", x.told(2, 0), BAD);
        answers.due("fault()", x.fault(), NONE);
        answers.due("lay()", x.lay(), NO);
        answers.due("undo()", x.undo(), NO);
        answers.due("clear()", x.clear(), NO);
        answers.due("gain()", x.gain(), ZERO);
        answers.due("best(0, 0)", x.best(0, 0), 1);
        answers.due("best(0, 1)", x.best(0, 1), ZERO);
        answers.due("open(0)", x.open(0), 0);
        answers.due("open(1)", x.open(1), 0);
        answers.due("blob(0, 0)", x.blob(0, 0), BAD);
        // FALL 6, AHEAD 1, BEHIND 1: TICK 0 is wanted from 5 to 7; DARK from 7 on; REST 2 joins 7 and 9 to 11.
        answers.due("ended", seen(x, 67L, 0L, 0L, 0L, 7L, 0L), 2);
        answers.due("blob 0", blobOf(x, 0), 0, 0, 6, 7, 2, 6, 1, 0, 0, 1);
        answers.due("openings of 3", openingsOf(x, 3), 5, 11);
        x = new SpeckValves();
        seen(x, 7L, 0L, 0L, 0L, 0L, 7L, 0L);
        answers.due("openings of 3 with REST between", openingsOf(x, 3), 5, 7, 10, 12);
    }

    private static void write() {
        answers.about("2 write");
        SpeckValves x = new SpeckValves();
        for (int letter : new int[] {31, 127, 0, -1, 128, 32 + 65536, LEAST, MOST}) {
            answers.due("write(" + letter + ")", x.write(letter), BAD);
        }
        answers.due("count(11)", x.count(11), 0);
        answers.due("write(32)", x.write(32), 1);
        answers.due("write(126)", x.write(126), 2);
        for (int length = 3; length <= 200; length++) {
            answers.due("write('q')", x.write('q'), length);
        }
        answers.due("write('q') again", x.write('q'), FULL);
        answers.due("write(31) where it is FULL", x.write(31), BAD);
        answers.due("count(11)", x.count(11), 200);
    }

    private static void wipe() {
        answers.about("3 wipe");
        SpeckValves x = new SpeckValves();
        answers.due("wipe()", x.wipe(), 0);
        tell(x, "r2,3;g4,2,0,0,0;");
        answers.due("lay()", x.lay(), 4);
        answers.due("wipe()", x.wipe(), 16);
        answers.due("wipe() again", x.wipe(), 0);
        answers.due("count(11)", x.count(11), 0);
        answers.due("count(0)", x.count(0), 4);
        for (int i = 0; i < 200; i++) {
            x.write(';');
        }
        answers.due("wipe() of all", x.wipe(), 200);
        answers.due("write behind it", x.write(';'), 1);
    }

    private static void faultIs(String text, int want) {
        SpeckValves x = new SpeckValves();
        tell(x, text);
        answers.due("fault() of " + text, x.fault(), want);
        answers.due("count(11) of " + text, x.count(11), text.length());
    }

    private static void fault() {
        answers.about("4 fault");
        String[] without = {"", "g8,4,6,1,1;r0,5;r1,2;d7;q2;", "g4,1,0,0,0;", "g16,16,20,5,5;", "g08,04,06,01,01;",
            "g15,5,0,0,0;", "r0,99;", "r3,1;", "r00,01;", "d1;", "d9;", "d09;", "q0;", "q9;", "q00;", "q2;q3;d1;d2;",
            "g4,2,0,0,0;g8,4,0,0,0;", "r0,1;r1,1;r2,1;r3,1;"};
        for (String text : without) {
            faultIs(text, NONE);
        }
        String[] atOnce = {"g3,1,0,0,0;", "g17,1,0,0,0;", "g8,0,0,0,0;", "g8,3,0,0,0;", "g8,16,0,0,0;", "g8,8,21,0,0;",
            "g8,8,0,6,0;", "g8,8,0,0,6;", "g8,4,6,1;", "g8,4,6,1,1,1;", "g008,4,6,1,1;", "g8,4,6,1,1", "g8;4,6,1,1;", "g;",
            "g8,4,6,1,001;", "g8,4,6,-1,1;", "g8,4,6,1,;", "g,4,6,1,1;",
            "r0,100;", "r4,1;", "r0,0;", "r0;", "r,1;", "r0,;", "r0,1,1;", "r-1,1;", "r0,1", "r0,1:", "r", "r0 ,1;", "r000,1;",
            "d0;", "d10;", "d;", "d7", "d7,", "d007;", "d7,7;", "q10;", "q;", "q009;", "q5", "q-1;", "q5.;",
            ";", "x;", "G8,4,6,1,1;", "R0,5;", "8,4;", " r0,5;", "~"};
        for (String text : atOnce) {
            faultIs(text, 0);
        }
    }

    private static void faultOfSeveral() {
        answers.about("4 fault of several items");
        faultIs("r0,5;;", 5);
        faultIs("r0,5; r0,5;", 5);
        faultIs("r0,5;g8,4,6,1", 5);
        faultIs("r0,5;d7;q10;q11;", 8);
        faultIs("d7;g3,1,0,0,0;g8,4,6,1,1;", 3);
        faultIs("r0,1;r0,1;r0,1;r0,1;r0,1;", 20);
        faultIs("r0,1;r0,1;r0,1;r0,1;d7;r0,1;q2;", 23);
        faultIs("r0,1;r0,1;r0,1;r0,1;d0;r0,1;", 20);
        String many = "q0;".repeat(66);
        faultIs(many, NONE);
        faultIs(many + "q0", 198);
        faultIs("d7;" + many.substring(3) + "q;", 198);
        SpeckValves x = new SpeckValves();
        tell(x, "r0,1;q2;");
        tell(x, "r0,1");
        answers.due("fault() where a ; stood behind THE TEXT once", x.fault(), 0);
        answers.due("write(';')", x.write(';'), 5);
        answers.due("fault() with it", x.fault(), NONE);
    }

    private static void lay() {
        answers.about("5 lay");
        SpeckValves x = new SpeckValves();
        seen(x, 80L, 0L);
        x.rule(0, 6);
        int[] before = countsOf(x);
        answers.due("lay() of nothing", x.lay(), NO);
        tell(x, "q5;g4,2,1,1,1;");
        answers.due("lay() without a RULE", x.lay(), NO);
        tell(x, "g4,2,1,1,1;r0,5;r0,0;");
        answers.due("lay() with a FAULT", x.lay(), NO);
        x.wipe();
        answers.due("counts behind NO", countsOf(x), before);
        answers.due("told(0, 1) behind NO", x.told(0, 1), 6);
        answers.due("blob(0, 6) behind NO", x.blob(0, 6), 1);
        tell(x, "g12,3,1,1,1;r2,4;r3,2;r1,1;");
        answers.due("lay()", x.lay(), 12);
        answers.due("counts", countsOf(x), 12, 3, 3, 0, 0, 0, 0, 0, 0, 0, 0, 27);
        answers.due("undo() behind LAID", x.undo(), NO);
        answers.due("told(2, 1)", x.told(2, 1), 1);
        answers.due("told(1, 0)", x.told(1, 0), 3);
        x.rule(0, 9);
        seen(x, 1L);
        answers.due("lay() again", x.lay(), 12);
        answers.due("told(0, 1) as LAID", x.told(0, 1), 4);
        answers.due("open(0) as LAID", x.open(0), 0);
        answers.due("count(10) as LAID", x.count(10), 0);
        tell(x, "r0,5;");
        answers.due("lay() without g", x.lay(), 8);
        answers.due("count(1)", x.count(1), 4);
        answers.due("count(2)", x.count(2), 1);
    }

    private static void laySettings() {
        answers.about("5 lay: what is laid");
        SpeckValves x = laid("g4,4,9,2,3;d3;q5;r2,1;");
        seen(x, 32L, 0L);
        answers.due("blob", blobOf(x, 0), 0, 0, 2, 3, 2, 2, 1, 0, 0, 1);
        answers.due("openings", openingsOf(x, 3), 7, 12);
        x = laid("g16,4,9,2,3;g4,2,1,0,0;d3;d4;q9;q0;r2,1;");
        seen(x, 43L, 0L);
        answers.due("blob of the last ones", blobOf(x, 0), 0, 0, 2, 3, 2, 3, 1, 0, 0, 1);
        answers.due("openings of the last ones", openingsOf(x, 1), 1, 1);
        tell(x, "r1,1;");
        x.lay();
        seen(x, 67L, 0L, 0L, 0L, 7L, 0L);
        answers.due("dark without d", x.blob(0, 6), 1);
        answers.due("openings without g and q", openingsOf(x, 3), 5, 11);
    }

    private static void see() {
        answers.about("6 see");
        SpeckValves x = new SpeckValves();
        for (long line : new long[] {-1, 100000000L, Long.MIN_VALUE, Long.MAX_VALUE, 4294967296L}) {
            answers.due("see(" + line + ")", x.see(line), BAD);
        }
        answers.due("count(3)", x.count(3), 0);
        answers.due("count(10)", x.count(10), 0);
        answers.due("see(99999999)", x.see(99999999L), 0);
        answers.due("see(0)", x.see(0L), 1);
        answers.due("see(90000009)", x.see(90000009L), 0);
        answers.due("see(10)", x.see(10L), 1);
        answers.due("see(0)", x.see(0L), 1);
        answers.due("see(0) again", x.see(0L), 0);
        answers.due("blob 1 is at CELL 0", x.blob(1, 3), 0);
        answers.due("blob 2 is at CELLS 6", x.blob(2, 2), 6);
        answers.due("blob 2 is at CELLS to 7", x.blob(2, 3), 7);
        x = laid("g4,1,0,0,0;r0,1;");
        answers.due("see(10000)", x.see(10000L), BAD);
        answers.due("see(9999)", x.see(9999L), 0);
        x = laid("g16,1,0,0,0;r0,1;");
        answers.due("see(10 to the 16th)", x.see(10000000000000000L), BAD);
        answers.due("see(16 figures)", x.see(9999999999999999L), 0);
        answers.due("open(1)", x.open(1), 16);
    }

    private static void seeFull() {
        answers.about("6 see: FULL");
        SpeckValves x = new SpeckValves();
        for (int tick = 0; tick < 60; tick++) {
            answers.due("see(3) at " + tick, x.see(3L), 0);
        }
        answers.due("see(3) at 60", x.see(3L), FULL);
        answers.due("see(-1) where it is FULL", x.see(-1L), BAD);
        answers.due("see(100000000) where it is FULL", x.see(100000000L), BAD);
        answers.due("open(1)", x.open(1), 60);
        answers.due("undo()", x.undo(), 5);
        answers.due("see(0) at 59", x.see(0L), 1);
        answers.due("TALL, SIZE", x.blob(0, 1) * 100 + x.blob(0, 4), 5859);
        answers.due("see(0) at 60", x.see(0L), FULL);
        answers.due("clear()", x.clear(), 60);
        answers.due("see(0) at 0", x.see(0L), 0);
    }

    private static void seeManyEnd() {
        answers.about("6 see: many end");
        SpeckValves x = laid("g16,16,0,0,0;r2,99;");
        long eight = 1010101010101010L;
        answers.due("ended", seen(x, 1010101010101000L, 0L, eight, 0L, eight, 0L), 23);
        answers.due("see(eight)", x.see(eight), 0);
        answers.due("see(0)", x.see(0L), 8);
        answers.due("count(4)", x.count(4), 31);
        answers.due("blob 30", blobOf(x, 30), 6, 6, 14, 14, 1, 1, 0, NONE, 0, 0);
        answers.due("blob(31, 0)", x.blob(31, 0), BAD);
        answers.due("see(0) behind 31", x.see(0L), FULL);
        answers.due("see(-1) behind 31", x.see(-1L), BAD);
        answers.due("gain()", x.gain(), ZERO + 31);
        answers.due("rule(0, 1) opens none", x.rule(0, 1) * 100 + x.count(8), 9931);
        answers.due("undo()", x.undo(), 5);
        answers.due("undo()", x.undo(), 4);
        answers.due("see(eight) goes on", x.see(eight), 0);
        answers.due("open(1)", x.open(1), 16);
        x = laid("g4,1,0,0,0;r2,99;");
        for (int i = 0; i < 12; i++) {
            answers.due("two end", seen(x, 1001L, 0L), 2);
        }
        answers.due("see(0) behind 24", x.see(0L), FULL);
        answers.due("count(3)", x.count(3), 24);
    }

    private static void rule() {
        answers.about("7 rule");
        SpeckValves x = new SpeckValves();
        int[][] wrong = {{-1, 5}, {2, 5}, {4, 5}, {LEAST, 5}, {MOST, 5}, {0, 0}, {0, 100}, {0, -1}, {1, LEAST}, {1, MOST}};
        for (int[] w : wrong) {
            answers.due("rule(" + w[0] + ", " + w[1] + ")", x.rule(w[0], w[1]), BAD);
        }
        answers.due("rule(0, 5)", x.rule(0, 5), NO);
        answers.due("count(10)", x.count(10), 0);
        seen(x, 40000000L, 0L, 7L, 0L);
        answers.due("count(5)", x.count(5), 1);
        answers.due("rule(0, 4)", x.rule(0, 4), 5);
        answers.due("count(5) anew", x.count(5), 2);
        answers.due("rule(0, 99)", x.rule(0, 99), 4);
        answers.due("rule(1, 1)", x.rule(1, 1), 2);
        answers.due("told(0, 1)", x.told(0, 1), 99);
        answers.due("told(1, 2)", x.told(1, 2), 1);
        answers.due("count(10)", x.count(10), 6);
        answers.due("rule(0, 1)", x.rule(0, 1), 99);
        answers.due("told(0, 2)", x.told(0, 2), 2);
        answers.due("told(1, 2)", x.told(1, 2), 0);
        x = laid("r0,1;r1,1;r2,1;r3,1;");
        answers.due("rule(3, 7)", x.rule(3, 7), 1);
        answers.due("rule(4, 7)", x.rule(4, 7), BAD);
    }

    private static void clear() {
        answers.about("8 clear");
        SpeckValves x = new SpeckValves();
        answers.due("clear()", x.clear(), NO);
        tell(x, "q5;");
        seen(x, 8L, 0L, 30L);
        x.rule(0, 3);
        answers.due("clear()", x.clear(), 3);
        answers.due("counts", countsOf(x), 8, 4, 2, 0, 0, 0, 0, 0, 0, 0, 5, 3);
        answers.due("told(0, 1)", x.told(0, 1), 3);
        answers.due("open(0)", x.open(0), 0);
        answers.due("openings", x.opening(3, -1, 0), 0);
        answers.due("clear() again", x.clear(), NO);
        answers.due("count(10)", x.count(10), 5);
        // The LINE that hung over the cut must not hang together with what comes behind it.
        answers.due("see(20)", x.see(20L), 0);
        answers.due("see(0)", x.see(0L), 1);
        answers.due("blob", blobOf(x, 0), 0, 0, 6, 6, 1, 2, 0, NONE, 0, 0);
    }

    private static void undo() {
        answers.about("9 undo");
        SpeckValves x = new SpeckValves();
        answers.due("undo()", x.undo(), NO);
        for (int i = 1; i <= 8; i++) {
            seen(x, i);
            answers.due("count(10)", x.count(10), Math.min(i, 6));
        }
        x.see(-1L);
        x.rule(0, 5);
        x.rule(9, 9);
        answers.due("count(10) behind what was refused", x.count(10), 6);
        for (int i = 5; i >= 0; i--) {
            answers.due("undo()", x.undo(), i);
            answers.due("count(3)", x.count(3), i + 2);
            answers.due("open(1)", x.open(1), i + 2);
        }
        answers.due("undo() at the end", x.undo(), NO);
        answers.due("count(3)", x.count(3), 2);
        seen(x, 0L);
        answers.due("undo() of nothing that becomes another", x.undo(), 0);
        answers.due("count(3)", x.count(3), 2);
    }

    private static void undoOfAllChanges() {
        answers.about("9 undo of all kinds of changes");
        SpeckValves x = new SpeckValves();
        seen(x, 8L, 0L);
        x.clear();
        seen(x, 30L, 0L);
        x.rule(0, 3);
        x.clear();
        seen(x, 1L);
        answers.due("undo() of a LINE", x.undo(), 5);
        answers.due("count(3)", x.count(3), 0);
        answers.due("undo() of all cleared", x.undo(), 4);
        answers.due("blob", blobOf(x, 0), 0, 0, 6, 6, 1, 3, 0, 0, 0, 1);
        answers.due("undo() of a NUMBER", x.undo(), 3);
        answers.due("told(0, 1)", x.told(0, 1), 5);
        answers.due("blob", blobOf(x, 0), 0, 0, 6, 6, 1, 3, 0, NONE, 0, 0);
        answers.due("undo() of a LINE", x.undo(), 2);
        answers.due("open(1)", x.open(1), 1);
        answers.due("undo() of a LINE", x.undo(), 1);
        answers.due("undo() of all cleared", x.undo(), 0);
        answers.due("blob", blobOf(x, 0), 0, 0, 7, 7, 1, 8, 1, 0, 0, 1);
        answers.due("undo() of the seventh", x.undo(), NO);
        answers.due("count(3)", x.count(3), 2);
        x.rule(0, 9);
        tell(x, "r0,1;");
        x.lay();
        answers.due("undo() behind LAID", x.undo(), NO);
    }

    private static void blobJoined() {
        answers.about("10 blob: joined");
        SpeckValves x = new SpeckValves();
        for (int[] w : new int[][] {{0, 0}, {-1, 0}, {LEAST, 0}, {MOST, 9}}) {
            answers.due("blob(" + w[0] + ", " + w[1] + ") of none", x.blob(w[0], w[1]), BAD);
        }
        answers.due("a U: ended", seen(x, 20000003L, 20000030L, 2000300L, 234000L), 0);
        answers.due("a U: open(0)", x.open(0), 1);
        answers.due("a U: see(0)", x.see(0L), 1);
        answers.due("a U", blobOf(x, 0), 0, 3, 0, 7, 9, 2, 0, NONE, 0, 0);
        x = new SpeckValves();
        answers.due("an arch: ended", seen(x, 111000L, 1000100L, 10000010L), 0);
        answers.due("an arch: open(0)", x.open(0), 1);
        answers.due("an arch: open(1)", x.open(1), 7);
        answers.due("an arch: see(1)", x.see(1L), 0);
        answers.due("an arch: see(10000000)", x.see(10000000L), 1);
        x = new SpeckValves();
        answers.due("an arch whose legs end apart", seen(x, 5550000L, 50005000L, 50000000L, 0L), 1);
        answers.due("an arch", blobOf(x, 0), 0, 2, 0, 4, 6, 5, 0, 0, 0, 1);
        answers.due("blob(0, -1)", x.blob(0, -1), BAD);
        answers.due("blob(0, 10)", x.blob(0, 10), BAD);
        answers.due("blob(1, 0)", x.blob(1, 0), BAD);
        answers.due("blob(-1, 0)", x.blob(-1, 0), BAD);
        x = new SpeckValves();
        answers.due("three by one LINE", seen(x, 10200300L, 1000000L, 0L), 2);
        answers.due("of the three", blobOf(x, 0), 0, 0, 5, 5, 1, 3, 0, NONE, 0, 0);
        answers.due("two of the three", blobOf(x, 1), 0, 1, 0, 2, 3, 1, 0, NONE, 0, 0);
    }

    private static void blobApart() {
        answers.about("10 blob: apart");
        SpeckValves x = new SpeckValves();
        answers.due("two CELLS apart", seen(x, 10000000L, 100000L), 1);
        answers.due("an empty LINE between", seen(x, 0L, 100000L, 0L), 2);
        answers.due("one apart, to the left", seen(x, 100000L, 1000000L, 0L), 1);
        answers.due("one apart, to the right", seen(x, 1000000L, 100000L, 0L), 1);
        answers.due("around the edge", seen(x, 10000000L, 1L), 1);
        answers.due("the last one", seen(x, 0L), 1);
        answers.due("count(4)", x.count(4), 7);
        answers.due("blob 1", blobOf(x, 1), 1, 1, 2, 2, 1, 1, 0, NONE, 0, 0);
        answers.due("blob 3", blobOf(x, 3), 5, 6, 1, 2, 2, 1, 0, NONE, 0, 0);
    }

    private static void blobOrder() {
        answers.about("10 blob: numbered as they end");
        SpeckValves x = new SpeckValves();
        seen(x, 100L, 30000100L, 0L);
        answers.due("the earlier LINE first", x.blob(0, 2), 5);
        answers.due("then the later one", x.blob(1, 2), 0);
        x = new SpeckValves();
        seen(x, 10000010L, 10L, 0L);
        answers.due("that which ends first", x.blob(0, 3), 0);
        answers.due("that which ends then", x.blob(1, 2), 6);
        x = new SpeckValves();
        seen(x, 1010010L, 1001100L, 0L);
        answers.due("of one LINE the lowest CELL", x.blob(0, 3), 1);
        answers.due("joined ones behind it", blobOf(x, 1), 0, 1, 3, 6, 4, 1, 0, NONE, 0, 0);
        x = new SpeckValves();
        // That at CELL 0 comes later than that at 5, but is joined by it to one that BEGAN first of all.
        seen(x, 20000L, 20001L, 22200001L, 0L);
        answers.due("BEGAN where the earlier did", x.blob(0, 0) * 10 + x.blob(0, 2), 0);
        answers.due("the other", x.blob(1, 0) * 10 + x.blob(1, 2), 17);
        x = new SpeckValves();
        seen(x, 1L, 40000001L, 4000001L, 400001L, 0L);
        answers.due("a long one that BEGAN later", x.blob(1, 0) * 10 + x.blob(1, 4), 13);
    }

    private static void blobJudged() {
        answers.about("10 blob: judged");
        SpeckValves x = laid("g8,8,6,1,1;r3,4;r1,2;r2,6;r0,5;");
        seen(x, 55400000L, 0L, 55500000L, 0L, 70700000L, 7000000L, 0L, 11111100L, 0L);
        seen(x, 1L, 1L, 1L, 0L, 1L, 1L, 1L, 1L, 0L);
        answers.due("MEAN is cut", blobOf(x, 0), 0, 0, 0, 2, 3, 4, 0, NONE, 0, 0);
        answers.due("by MEAN", x.blob(1, 7), 3);
        answers.due("by DARK", x.blob(2, 7), 1);
        answers.due("DARK ones", x.blob(2, 6), 3);
        answers.due("by SIZE", x.blob(3, 7), 2);
        answers.due("by none", x.blob(4, 7), NONE);
        answers.due("by TALL", x.blob(5, 7), 0);
        answers.due("told(0, 2)", x.told(0, 2), 1);
        x.rule(0, 1);
        for (int b = 0; b < 6; b++) {
            answers.due("the first RULE counts", x.blob(b, 7), 0);
        }
        x.rule(0, 99);
        answers.due("by none that is so high", x.blob(5, 7), NONE);
    }

    private static void blobLate() {
        answers.about("10 blob: LATE, BLOWN");
        // TALL 3 from TICK 0 on: ENDED at 3, and passes the VALVES from FALL to FALL and 2.
        int[][] late = {{4, 1, 0, 0, 1}, {3, 0, 0, 0, 1}, {3, 1, 0, 1, 1}, {2, 0, 0, 1, 1}, {1, 0, 0, 1, 1},
            {0, 0, 5, 1, 0}, {0, 0, 0, 1, 0}, {0, 5, 1, 1, 0}, {20, 5, 0, 0, 1}, {8, 5, 0, 0, 1}, {7, 5, 0, 1, 1}};
        for (int[] w : late) {
            String text = "g4,4," + w[0] + "," + w[1] + "," + w[2] + ";r3,3;";
            SpeckValves x = laid(text);
            seen(x, 10L, 10L, 10L, 0L);
            answers.due(text + " LATE", x.blob(0, 8), w[3]);
            answers.due(text + " BLOWN", x.blob(0, 9), w[4]);
            answers.due(text + " LATE ones", x.count(6), w[3]);
            answers.due(text + " LET", x.count(8), 1 - w[4]);
            x.rule(0, 4);
            answers.due(text + " LATE, but GOOD", x.blob(0, 8) + x.count(6), 0);
            answers.due(text + " LET, but GOOD", x.count(8), 0);
        }
    }

    private static void open() {
        answers.about("11 open");
        SpeckValves x = new SpeckValves();
        for (int what : new int[] {-1, 2, LEAST, MOST}) {
            answers.due("open(" + what + ")", x.open(what), BAD);
        }
        seen(x, 11010100L);
        answers.due("open(0)", x.open(0), 3);
        answers.due("open(1)", x.open(1), 4);
        seen(x, 1L);
        answers.due("open(0) where three ended", x.open(0), 1);
        answers.due("open(1) where three ended", x.open(1), 1);
        seen(x, 1000011L);
        answers.due("open(0) of a new one", x.open(0), 2);
        answers.due("open(1) of a new one", x.open(1), 4);
        seen(x, 0L);
        answers.due("open(0) of none", x.open(0), 0);
        answers.due("open(1) of none", x.open(1), 0);
        x = laid("g16,1,0,0,0;r0,1;");
        seen(x, 1010101010101010L);
        answers.due("open(0) of eight", x.open(0), 8);
        answers.due("a LINE that joins them all", seen(x, 101010101010101L), 0);
        answers.due("open(0) of all", x.open(0), 1);
        answers.due("open(1) of all", x.open(1), 16);
    }

    private static void openingsByRest(int rest, long[] lines, int... want) {
        SpeckValves x = laid("g4,1,5,0,0;r2,1;q" + rest + ";");
        seen(x, lines);
        answers.due("REST " + rest + ": openings", openingsOf(x, 0), want);
    }

    private static void openingRest() {
        answers.about("12 opening: REST");
        long[] oneBetween = {1000L, 0L, 1L, 0L};
        openingsByRest(0, oneBetween, 5, 5, 7, 7);
        openingsByRest(1, oneBetween, 5, 5, 7, 7);
        openingsByRest(2, oneBetween, 5, 7);
        long[] noneBetween = {1000L, 1L, 0L};
        openingsByRest(0, noneBetween, 5, 6);
        openingsByRest(1, noneBetween, 5, 6);
        openingsByRest(9, noneBetween, 5, 6);
        long[] nineBetween = {1000L, 0L, 0L, 0L, 0L, 0L, 0L, 0L, 0L, 0L, 1000L, 0L};
        openingsByRest(9, nineBetween, 5, 5, 15, 15);
        long[] eightBetween = {1000L, 0L, 0L, 0L, 0L, 0L, 0L, 0L, 0L, 1000L, 0L};
        openingsByRest(9, eightBetween, 5, 14);
        long[] three = {1000L, 0L, 1000L, 0L, 1000L, 0L, 0L, 0L, 1000L, 0L};
        openingsByRest(2, three, 5, 9, 13, 13);
        openingsByRest(3, three, 5, 9, 13, 13);
        openingsByRest(4, three, 5, 13);
        // The tall one ends last, but is wanted from the first TICK on: it joins all that are within it.
        long[] tall = {2000L, 2001L, 2000L, 2001L, 2000L, 0L};
        openingsByRest(0, tall, 5, 9);
        long[] tallBehind = {1L, 0L, 2000L, 2001L, 2000L, 2001L, 2000L, 0L};
        openingsByRest(0, tallBehind, 5, 5, 7, 11);
    }

    private static void openingOfValves() {
        answers.about("12 opening");
        SpeckValves x = laid("g12,3,4,1,1;r2,2;q0;");
        int[][] wrong = {{-1, 0, 0}, {3, 0, 0}, {LEAST, 0, 0}, {MOST, 0, 0}, {0, -2, 0}, {0, LEAST, 0}, {0, 0, -1},
            {0, 0, 2}, {0, -1, 2}, {0, -1, -1}, {0, 99, 2}, {3, -1, 0}, {0, MOST, LEAST}};
        for (int[] w : wrong) {
            answers.due("opening(" + w[0] + ", " + w[1] + ", " + w[2] + ")", x.opening(w[0], w[1], w[2]), BAD);
        }
        answers.due("opening(0, -1, 1) of none", x.opening(0, -1, 1), 0);
        answers.due("opening(0, 0, 1) of none", x.opening(0, 0, 1), NONE);
        seen(x, 110000000000L, 0L, 1100000000L, 0L, 1L, 0L);
        answers.due("openings of 0", openingsOf(x, 0), 3, 7);
        answers.due("openings of 1", openingsOf(x, 1), new int[0]);
        seen(x, 0L, 111111000L, 0L);
        answers.due("openings of 0 over the seam", openingsOf(x, 0), 3, 7, 10, 12);
        answers.due("openings of 1 over the seam", openingsOf(x, 1), 10, 12);
        answers.due("openings of 2 over the seam", openingsOf(x, 2), 10, 12);
        answers.due("opening(0, -1, 1)", x.opening(0, -1, 1), 2);
        answers.due("opening(0, 2, 0)", x.opening(0, 2, 0), NONE);
        answers.due("opening(0, MOST, 0)", x.opening(0, MOST, 0), NONE);
        x = laid("g16,16,4,1,1;r2,1;");
        seen(x, 1000000000000001L, 0L);
        answers.due("opening(0)", openingsOf(x, 0), 3, 5);
        answers.due("opening(1)", openingsOf(x, 1), new int[0]);
        answers.due("opening(15)", openingsOf(x, 15), 3, 5);
        answers.due("BLOWN by VALVES 0 and 15", x.blob(0, 9) * 10 + x.blob(1, 9), 11);
        answers.due("opening(16, -1, 0)", x.opening(16, -1, 0), BAD);
    }

    private static void openingOfTheLate() {
        answers.about("12 opening: not ahead of what was seen");
        SpeckValves x = laid("g4,2,1,0,1;r3,3;q0;");
        seen(x, 1000L, 1000L, 1000L, 0L);
        answers.due("from the end on", openingsOf(x, 0), 3, 4);
        x = laid("g4,2,0,5,0;r3,1;q0;");
        seen(x, 1000L, 1000L, 0L);
        answers.due("not at all", openingsOf(x, 0), new int[0]);
        answers.due("LATE all the same", x.count(6), 1);
        x = laid("g4,2,0,0,1;r3,1;q0;");
        seen(x, 1000L, 1000L, 0L);
        answers.due("one TICK", openingsOf(x, 0), 2, 2);
        x = laid("g4,2,20,0,5;r3,1;q0;");
        for (int tick = 0; tick < 59; tick++) {
            seen(x, 0L);
        }
        answers.due("none yet", openingsOf(x, 1), new int[0]);
        x.undo();
        seen(x, 10L, 0L);
        answers.due("the latest TICK of all", openingsOf(x, 1), 78, 83);
    }

    private static void air() {
        answers.about("13 air");
        SpeckValves x = laid("g4,2,5,1,1;r2,1;q3;");
        for (int j : new int[] {-1, 2, 4, LEAST, MOST}) {
            answers.due("air(" + j + ")", x.air(j), BAD);
        }
        answers.due("air(0) of none", x.air(0), 0);
        seen(x, 1000L, 0L);
        answers.due("air(0)", x.air(0), 3);
        answers.due("air(1)", x.air(1), 0);
        seen(x, 0L, 0L, 0L, 1000L, 0L);
        answers.due("air(0) with a gap of 2", x.air(0), 8);
        seen(x, 0L, 0L, 0L, 0L, 1000L, 0L);
        answers.due("air(0) with a gap of 3", x.air(0), 11);
        x.rule(0, 2);
        answers.due("air(0) of GOOD ones", x.air(0), 0);
        x = laid("g16,16,5,1,1;r2,1;");
        seen(x, 1L, 0L);
        answers.due("air(15)", x.air(15), 3);
        answers.due("air(16)", x.air(16), BAD);
    }

    private static void blownByOthers() {
        answers.about("10, 16 blown by what others want");
        SpeckValves x = laid("g8,2,4,1,1;r1,1;q0;");
        seen(x, 80010000L, 0L, 10000L, 0L, 1L, 0L);
        answers.due("counts", countsOf(x), 8, 2, 1, 6, 4, 1, 0, 2, 0, 1, 6, 19);
        answers.due("the bad one", x.blob(0, 9), 1);
        answers.due("a good one beside it", x.blob(1, 9), 1);
        answers.due("a good one behind it", x.blob(2, 9), 0);
        answers.due("a good one far off", x.blob(3, 9), 0);
        // Bad at TICKS 0 and 6, wanted 3 to 5 and 9 to 11: a good one of TICK 3 passes at 7, between them.
        x = laid("g8,2,4,1,1;r1,1;q3;");
        seen(x, 80000000L, 0L, 0L, 10000000L, 0L, 0L, 80000000L, 0L);
        answers.due("three between: LOST", x.count(9), 0);
        answers.due("three between: openings", x.opening(0, -1, 0), 2);
        x = laid("g8,2,4,1,1;r1,1;q4;");
        seen(x, 80000000L, 0L, 0L, 10000000L, 0L, 0L);
        answers.due("LOST ahead of the second", x.count(9), 0);
        answers.due("gain ahead of the second", x.gain(), ZERO + 1);
        seen(x, 80000000L, 0L);
        answers.due("LOST in the rest", x.count(9), 1);
        answers.due("gain", x.gain(), ZERO);
        answers.due("undo()", x.undo(), 5);
        answers.due("LOST undone", x.count(9), 0);
    }

    private static void gain() {
        answers.about("14 gain");
        SpeckValves x = laid("g8,4,4,1,1;r2,99;");
        seen(x, 11100000L);
        answers.due("of one that is open", x.gain(), ZERO);
        seen(x, 0L);
        answers.due("SIZE", x.gain(), ZERO + 3);
        seen(x, 7L, 0L);
        answers.due("one DARK", x.gain(), ZERO);
        seen(x, 16789000L, 0L);
        answers.due("three DARK with others", x.gain(), ZERO - 9);
        answers.due("BLOWN ones don't count", x.rule(0, 5), 99);
        answers.due("gain()", x.gain(), ZERO);
        answers.due("counts", x.count(7), 1);
        x = laid("g16,1,0,0,0;r2,99;d1;");
        for (int tick = 0; tick < 59; tick++) {
            seen(x, 9999999999999999L);
        }
        seen(x, 0L);
        answers.due("the least", x.gain(), ZERO - 3 * 59 * 16);
        x = laid("g16,1,0,0,0;r3,99;d9;");
        for (int tick = 0; tick < 59; tick++) {
            seen(x, 8888888888888888L);
        }
        seen(x, 0L);
        answers.due("the most", x.gain(), ZERO + 59 * 16);
    }

    private static void best() {
        answers.about("15 best");
        SpeckValves x = new SpeckValves();
        int[][] wrong = {{-1, 0}, {2, 0}, {LEAST, 0}, {MOST, 1}, {0, -1}, {0, 2}, {1, LEAST}, {1, MOST}};
        for (int[] w : wrong) {
            answers.due("best(" + w[0] + ", " + w[1] + ")", x.best(w[0], w[1]), BAD);
        }
        x = laid("g8,8,4,1,1;r2,99;");
        seen(x, 11100007L, 7L, 0L, 0L, 0L, 0L, 0L, 1000L, 0L);
        // SIZES 3 (good), 2 (two DARK), 1 (good): none blown -2, SIZE 1 on 0, 2 on 1, 3 on -5, 4 on -2.
        answers.due("gain()", x.gain(), ZERO - 2);
        answers.due("best(0, 0)", x.best(0, 0), 2);
        answers.due("best(0, 1)", x.best(0, 1), ZERO + 1);
        answers.due("gain() is as it was", x.gain(), ZERO - 2);
        answers.due("counts are as they were", countsOf(x), 8, 8, 1, 9, 3, 0, 0, 0, 0, 0, 6, 17);
        answers.due("openings are as they were", x.opening(7, -1, 0), 0);
        answers.due("told(0, 1)", x.told(0, 1), 99);
        answers.due("rule(0, 2)", x.rule(0, 2), 99);
        answers.due("gain() by it", x.gain(), ZERO + 1);
        answers.due("best(0, 0) by it", x.best(0, 0), 2);
    }

    private static void bestOfSeveral() {
        answers.about("15 best: of several the least, all else as it is");
        SpeckValves x = laid("g8,8,4,1,1;r2,50;r1,1;");
        seen(x, 11100077L, 0L);
        answers.due("best(0, 0): those above 3", x.best(0, 0), 4);
        answers.due("best(0, 1)", x.best(0, 1), ZERO + 3);
        answers.due("best(1, 0): those to 2", x.best(1, 0), 1);
        answers.due("best(1, 1)", x.best(1, 1), ZERO + 3);
        x.rule(1, 9);
        answers.due("best(0, 0): 2 is worth 0, 3 is less", x.best(0, 0), 1);
        answers.due("best(0, 1)", x.best(0, 1), ZERO);
        answers.due("best(1, 1)", x.best(1, 1), ZERO + 3);
        x = laid("g16,1,20,0,0;r2,1;");
        for (int tick = 0; tick < 6; tick++) {
            seen(x, 1111111111111111L);
        }
        seen(x, 1100000000000000L, 0L);
        answers.due("SIZE 98", x.blob(0, 4), 98);
        answers.due("best(0, 0): 99", x.best(0, 0), 99);
        answers.due("best(0, 1): 98", x.best(0, 1), ZERO + 98);
        x = laid("g16,1,20,0,0;r2,1;");
        for (int tick = 0; tick < 6; tick++) {
            seen(x, 1111111111111111L);
        }
        seen(x, 1110000000000000L, 0L);
        answers.due("SIZE 99", x.blob(0, 4), 99);
        answers.due("best(0, 0): blown by all", x.best(0, 0), 1);
        answers.due("best(0, 1): none", x.best(0, 1), ZERO);
        x = laid("g4,1,0,0,0;r0,50;r3,50;r1,50;");
        seen(x, 9000L, 9L, 0L);
        for (int k = 0; k < 3; k++) {
            answers.due("where nothing can be blown", x.best(k, 0), 1);
            answers.due("where nothing can be blown", x.best(k, 1), ZERO - 6);
        }
    }

    private static void count() {
        answers.about("16 count");
        SpeckValves x = laid("g10,5,3,0,0;r1,1;r2,4;r3,3;q1;");
        for (int what : new int[] {-1, 12, LEAST, MOST}) {
            answers.due("count(" + what + ")", x.count(what), BAD);
        }
        // A bad one at VALVE 0 in time, a good one beside it, a late one of three LINES at VALVE 4.
        seen(x, 7010000000L, 0L, 1L, 1L, 1L, 1L, 0L, 1000000L);
        answers.due("counts", countsOf(x), 10, 5, 3, 8, 3, 2, 1, 2, 0, 0, 6, 30);
        x = laid("g10,1,3,0,0;r1,1;r3,3;q1;");
        seen(x, 7010000000L, 0L, 1L, 1L, 1L, 0L);
        answers.due("LOST", countsOf(x), 10, 1, 2, 6, 3, 2, 0, 3, 0, 1, 6, 25);
        x = laid("g10,1,0,0,5;r1,1;r3,3;q1;");
        seen(x, 7010000000L, 0L, 1L, 1L, 1L, 0L);
        answers.due("LET", countsOf(x), 10, 1, 2, 6, 3, 2, 2, 1, 1, 0, 6, 25);
    }

    private static void told() {
        answers.about("17 told");
        SpeckValves x = laid("r3,2;r2,44;r1,3;r0,9;");
        int[][] wrong = {{-1, 0}, {4, 0}, {LEAST, 1}, {MOST, 2}, {0, -1}, {0, 3}, {3, LEAST}, {3, MOST}};
        for (int[] w : wrong) {
            answers.due("told(" + w[0] + ", " + w[1] + ")", x.told(w[0], w[1]), BAD);
        }
        int[] kinds = {3, 2, 1, 0};
        int[] numbers = {2, 44, 3, 9};
        for (int k = 0; k < 4; k++) {
            answers.due("told(" + k + ", 0)", x.told(k, 0), kinds[k]);
            answers.due("told(" + k + ", 1)", x.told(k, 1), numbers[k]);
            answers.due("told(" + k + ", 2)", x.told(k, 2), 0);
        }
        seen(x, 90000009L, 9L, 0L, 777L, 0L, 9L);
        answers.due("told(0, 2)", x.told(0, 2), 1);
        answers.due("told(1, 2)", x.told(1, 2), 0);
        answers.due("told(2, 2)", x.told(2, 2), 1);
        answers.due("told(3, 2)", x.told(3, 2), 1);
        x.rule(1, 1);
        answers.due("told(1, 1)", x.told(1, 1), 1);
        answers.due("told(1, 2) anew", x.told(1, 2), 2);
        answers.due("told(3, 2) anew", x.told(3, 2), 0);
        answers.due("told(0, 2) anew", x.told(0, 2), 1);
    }
}
