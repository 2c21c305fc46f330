/** Edges of what is told: letters, THE TEXT, numbers of ITEMS, FAULT, what is LAID (Terms, promises 1 to 5). */
public final class TextBoundaryTest extends Calls {
    public static void main(String[] args) {
        newObject();
        laidAtFirst();
        letters();
        lettersAlone();
        textFull();
        textFullAndLaid();
        wiped();
        cellsAndValves();
        fallAheadBehind();
        dark();
        rest();
        kindsAndNumbers();
        rulesAtMost();
        figures();
        signsBetween();
        semicolons();
        unknownItems();
        firstFault();
        lastOneCounts();
        withoutItems();
        aRuleAtLeast();
        laidAnew();
        textStays();
        answers.end();
    }

    /** An ITEM is tried behind a RULE, so that its FAULT is told by itself and by lay(). */
    private static void itemIs(String item, boolean isTaken) {
        SpeckValves x = new SpeckValves();
        tell(x, "r2,1;" + item);
        answers.due("fault() of r2,1;" + item, x.fault(), isTaken ? NONE : 5);
        answers.due("lay() of r2,1;" + item + " is NO", x.lay() == NO ? 1 : 0, isTaken ? 0 : 1);
        answers.due("RULES behind r2,1;" + item, x.count(2), isTaken ? item.startsWith("r") ? 2 : 1 : 2);
        answers.due("KIND 0 behind r2,1;" + item, x.told(0, 0), isTaken ? 2 : 0);
    }

    private static void taken(String... items) {
        for (String item : items) {
            itemIs(item, true);
        }
    }

    private static void refused(String... items) {
        for (String item : items) {
            itemIs(item, false);
        }
    }

    private static void faultOf(String text, int want) {
        SpeckValves x = new SpeckValves();
        tell(x, text);
        answers.due("fault() of " + text, x.fault(), want);
        answers.due("fault() again of " + text, x.fault(), want);
        answers.due("letters of " + text, x.count(11), text.length());
    }

    private static void newObject() {
        answers.about("1 as told; THE TEXT is empty");
        SpeckValves x = new SpeckValves();
        answers.due("count(11)", x.count(11), 0);
        answers.due("fault()", x.fault(), NONE);
        answers.due("lay()", x.lay(), NO);
        answers.due("wipe()", x.wipe(), 0);
        answers.due("undo()", x.undo(), NO);
        answers.due("write('r') is the first letter", x.write('r'), 1);
        SpeckValves other = new SpeckValves();
        answers.due("another object has a TEXT of its own", other.count(11), 0);
        other.see(9L);
        answers.due("another object has LINES of its own", x.count(3), 0);
    }

    private static void laidAtFirst() {
        answers.about("1, 5 at first g8,4,6,1,1;r0,5;r1,2;d7;q2;");
        SpeckValves[] both = {new SpeckValves(), laid("g8,4,6,1,1;r0,5;r1,2;d7;q2;")};
        for (SpeckValves x : both) {
            answers.due("W, V, RULES", x.count(0) * 100 + x.count(1) * 10 + x.count(2), 842);
            answers.due("RULE 0", x.told(0, 0) * 100 + x.told(0, 1), 5);
            answers.due("RULE 1", x.told(1, 0) * 100 + x.told(1, 1), 102);
            seen(x, 67000000L, 0L, 0L, 0L, 60000000L, 0L, 0L, 0L, 0L, 60000000L, 0L);
            answers.due("DARK from 7 on", x.blob(0, 6), 1);
            // Wanted 5 to 7, 9 to 11 (one TICK between) and 14 to 16 (two between).
            answers.due("FALL, AHEAD, BEHIND, REST", openingsOf(x, 0), 5, 11, 14, 16);
            x.clear();
            seen(x, 444L, 0L, 71111L, 0L, 77111L, 0L, 555L, 0L);
            answers.due("MEAN 4, no DARK", x.blob(0, 7), NONE);
            answers.due("one DARK", x.blob(1, 7), NONE);
            answers.due("two DARK", x.blob(2, 7), 1);
            answers.due("MEAN 5", x.blob(3, 7), 0);
        }
    }

    private static void letters() {
        answers.about("2 a letter (32 to 126)");
        for (int letter = -200; letter <= 400; letter++) {
            SpeckValves x = new SpeckValves();
            boolean isTaken = letter >= 32 && letter <= 126;
            answers.due("write(" + letter + ")", x.write(letter), isTaken ? 1 : BAD);
            answers.due("count(11) behind " + letter, x.count(11), isTaken ? 1 : 0);
        }
        SpeckValves x = new SpeckValves();
        // Each would be a letter, if only its lowest eight or sixteen bits were looked at.
        for (int letter : new int[] {256 + 'r', 65536 + 'r', 'r' - 256, 'r' - 65536, LEAST + 'r', LEAST, MOST}) {
            answers.due("write(" + letter + ")", x.write(letter), BAD);
        }
        answers.due("count(11)", x.count(11), 0);
    }

    private static void lettersAlone() {
        answers.about("4 no letter alone is an ITEM");
        for (char letter = 32; letter <= 126; letter++) {
            faultOf("" + letter, 0);
            faultOf("q2;" + letter, 3);
            if (letter < '0' || letter > '9') {
                faultOf("q" + letter + ";", 0);
            }
        }
    }

    private static void textFull() {
        answers.about("2 FULL: it has 200");
        SpeckValves x = new SpeckValves();
        for (int length = 1; length <= 200; length++) {
            answers.due("write(' ') as letter " + length, x.write(' '), length);
        }
        answers.due("the letter 201", x.write(' '), FULL);
        answers.due("the letter 201 again", x.write('~'), FULL);
        answers.due("BAD comes ahead of FULL: 31", x.write(31), BAD);
        answers.due("BAD comes ahead of FULL: 127", x.write(127), BAD);
        answers.due("count(11)", x.count(11), 200);
        answers.due("wipe()", x.wipe(), 200);
        answers.due("write behind wipe()", x.write('r'), 1);
    }

    private static void textFullAndLaid() {
        answers.about("4, 5 a TEXT of 200 letters");
        String text = "r2,3;" + "q0;".repeat(65);
        SpeckValves x = new SpeckValves();
        tell(x, text);
        answers.due("count(11)", x.count(11), 200);
        answers.due("a letter that is FULL", x.write('x'), FULL);
        answers.due("fault()", x.fault(), NONE);
        answers.due("lay()", x.lay(), 8);
        faultOf("q0;".repeat(65) + "r2,3 ", 195);
        faultOf("q0;".repeat(65) + "r2,3;", NONE);
        faultOf("q0;".repeat(66) + ";", 198);
        faultOf("q0;".repeat(66) + "q0", 198);
        faultOf("q0;".repeat(65) + "q10;;", 195);
        faultOf("d12;" + "q0;".repeat(65), 0);
        x = new SpeckValves();
        tell(x, "q0;".repeat(65) + "r2,3");
        answers.due("lay() of 199 letters", x.lay(), NO);
        answers.due("the letter 200", x.write(';'), 200);
        answers.due("lay() with it", x.lay(), 8);
    }

    private static void wiped() {
        answers.about("3 THE TEXT is empty");
        SpeckValves x = new SpeckValves();
        answers.due("wipe() of nothing", x.wipe(), 0);
        x.write('r');
        answers.due("wipe() of one", x.wipe(), 1);
        answers.due("wipe() again", x.wipe(), 0);
        tell(x, "r2,1;q;");
        answers.due("fault()", x.fault(), 5);
        answers.due("wipe()", x.wipe(), 7);
        answers.due("fault() of nothing", x.fault(), NONE);
        answers.due("lay() of nothing", x.lay(), NO);
        add(x, "r2,1;");
        answers.due("what was wiped is not behind it", x.fault(), NONE);
        answers.due("lay()", x.lay(), 8);
        answers.due("RULES", x.count(2), 1);
    }

    private static void cellsAndValves() {
        answers.about("W 4 to 16, V parts W");
        for (int w = 0; w <= 99; w++) {
            for (int v = 0; v <= 99; v++) {
                boolean isTaken = w >= 4 && w <= 16 && v >= 1 && w % v == 0;
                String text = "g" + w + "," + v + ",0,0,0;r0,1;";
                SpeckValves x = new SpeckValves();
                tell(x, text);
                answers.due("fault() of " + text, x.fault(), isTaken ? NONE : 0);
                answers.due("lay() of " + text, x.lay(), isTaken ? w : NO);
                answers.due("W of " + text, x.count(0), isTaken ? w : 8);
                answers.due("V of " + text, x.count(1), isTaken ? v : 4);
            }
        }
        refused("g3,1,6,1,1;", "g3,3,6,1,1;", "g17,17,6,1,1;", "g17,1,6,1,1;", "g8,0,6,1,1;", "g0,0,6,1,1;", "g16,32,6,1,1;");
        taken("g4,1,6,1,1;", "g4,4,6,1,1;", "g16,16,6,1,1;", "g16,1,6,1,1;", "g13,13,6,1,1;", "g13,1,6,1,1;");
    }

    private static void fallAheadBehind() {
        answers.about("FALL 0 to 20, AHEAD and BEHIND 0 to 5 each");
        for (int n = 0; n <= 99; n++) {
            itemIs("g8,4," + n + ",1,1;", n <= 20);
            itemIs("g8,4,6," + n + ",1;", n <= 5);
            itemIs("g8,4,6,1," + n + ";", n <= 5);
        }
        taken("g8,4,0,0,0;", "g8,4,20,5,5;", "g8,4,0,5,5;", "g8,4,20,0,0;");
    }

    private static void dark() {
        answers.about("DARK from COLOUR D (1 to 9) on");
        for (int d = 0; d <= 99; d++) {
            itemIs("d" + d + ";", d >= 1 && d <= 9);
        }
        for (int d = 1; d <= 9; d++) {
            SpeckValves x = laid("g9,3,6,1,1;r2,1;d" + d + ";");
            seen(x, 123456789L, 0L);
            answers.due("DARK of 1 to 9 from " + d + " on", x.blob(0, 6), 10 - d);
        }
    }

    private static void rest() {
        answers.about("REST R (0 to 9)");
        for (int r = 0; r <= 99; r++) {
            itemIs("q" + r + ";", r <= 9);
        }
    }

    private static void kindsAndNumbers() {
        answers.about("RULES of a KIND 0 to 3 with a NUMBER 1 to 99");
        for (int n = 0; n <= 99; n++) {
            itemIs("r" + n + ",5;", n <= 3);
            itemIs("r1," + n + ";", n >= 1);
        }
        refused("r0,100;", "r3,100;", "r0,0;", "r3,00;", "r4,1;", "r4,99;", "r10,1;", "r0,101;");
        for (int kind = 0; kind <= 3; kind++) {
            SpeckValves x = laid("r" + kind + ",1;r" + kind + ",99;");
            answers.due("KIND", x.told(1, 0), kind);
            answers.due("the least NUMBER", x.told(0, 1), 1);
            answers.due("the highest NUMBER", x.told(1, 1), 99);
        }
    }

    private static void rulesAtMost() {
        answers.about("RULES: 4 at most, else one too many");
        StringBuilder text = new StringBuilder();
        for (int rules = 1; rules <= 4; rules++) {
            text.append("r").append(4 - rules).append(",").append(10 * rules).append(";");
            SpeckValves x = laid(text.toString());
            answers.due("RULES", x.count(2), rules);
            answers.due("KIND of the last one", x.told(rules - 1, 0), 4 - rules);
            answers.due("NUMBER of the last one", x.told(rules - 1, 1), 10 * rules);
            answers.due("none behind it", x.told(rules, 0), BAD);
        }
        String four = text.toString();
        int at = four.length();
        faultOf(four, NONE);
        faultOf(four + "r0,1;", at);
        faultOf(four + "r0,1;r0,1;", at);
        faultOf(four + "q2;r0,1;", at + 3);
        faultOf(four + "r0,1;q10;", at);
        faultOf(four + "q10;r0,1;", at);
        faultOf(four + "g4,1,0,0,0;d1;q1;", NONE);
        SpeckValves x = new SpeckValves();
        tell(x, four + "r0,1;");
        answers.due("lay() with five", x.lay(), NO);
        answers.due("RULES behind NO", x.count(2), 2);
    }

    private static void figures() {
        answers.about("numbers have one or two figures");
        String[][] forms = {{"g", ",4,6,1,1;", "8"}, {"g8,", ",6,1,1;", "4"}, {"g8,4,", ",1,1;", "6"}, {"g8,4,6,", ",1;", "1"},
            {"g8,4,6,1,", ";", "1"}, {"r", ",5;", "3"}, {"r3,", ";", "5"}, {"d", ";", "7"}, {"q", ";", "2"}};
        for (String[] form : forms) {
            taken(form[0] + form[2] + form[1], form[0] + "0" + form[2] + form[1]);
            refused(form[0] + form[1], form[0] + "00" + form[2] + form[1], form[0] + "000" + form[2] + form[1],
                    form[0] + form[2] + "00" + form[1], form[0] + "00000000000" + form[2] + form[1],
                    form[0] + "4294967296" + form[1]);
        }
        taken("g16,16,20,05,05;", "r03,99;", "q00;", "g8,4,00,00,00;");
        refused("d00;", "r0,00;", "g8,00,6,1,1;", "g00,1,6,1,1;");
    }

    private static void signsBetween() {
        answers.about("a letter that is no figure where a figure stands");
        String whole = "g8,4,6,1,1;";
        for (char letter = 32; letter <= 126; letter++) {
            boolean isFigure = letter >= '0' && letter <= '9';
            for (int at = 0; at < whole.length() && !isFigure; at++) {
                if (whole.charAt(at) != letter) {
                    refused(whole.substring(0, at) + letter + whole.substring(at + 1));
                    refused(whole.substring(0, at) + letter + whole.substring(at));
                }
            }
            if (!isFigure && letter != ';') {
                refused("q" + letter + "2;", "d7" + letter + ";", "r" + letter + "1,1;", "r1" + letter + ",1;", "r1," + letter + "1;");
            }
        }
        refused("g8,4,6,1;", "g8,4,6,1,1,1;", "g;", "r1;", "r1,1,1;", "r;", "d7,7;", "d;", "q2,2;", "q;", "g8,,6,1,1;");
    }

    private static void semicolons() {
        answers.about("a ; behind each");
        faultOf("", NONE);
        for (String item : new String[] {"g8,4,6,1,1", "r0,5", "d7", "q2"}) {
            for (int length = 1; length <= item.length(); length++) {
                faultOf(item.substring(0, length), 0);
                faultOf("r3,9;" + item.substring(0, length), 5);
            }
            faultOf(item + ";", NONE);
            faultOf(item + ";;", item.length() + 1);
            faultOf(";" + item + ";", 0);
            faultOf(item + " ;", 0);
            faultOf(item + "; ", item.length() + 1);
            faultOf(item + item + ";", 0);
            faultOf(item + ";" + item + ";", NONE);
            faultOf(item + ";" + item, item.length() + 1);
        }
        SpeckValves x = new SpeckValves();
        tell(x, "r0,1;q2;");
        tell(x, "r0,1");
        answers.due("a ; of a TEXT that was wiped does not count", x.fault(), 0);
    }

    private static void unknownItems() {
        answers.about("ITEMS are g, r, d, q");
        for (char letter = 32; letter <= 126; letter++) {
            boolean isOne = letter == 'd' || letter == 'q';
            faultOf(letter + "2;", isOne ? NONE : 0);
            itemIs(letter + "2,2;", letter == 'r');
            itemIs(letter + "8,4,2,2,2;", letter == 'g');
        }
    }

    private static void firstFault() {
        answers.about("FAULT: the first letter of the first ITEM that is not so");
        faultOf("q10;d7;", 0);
        faultOf("d7;q10;", 3);
        faultOf("d7;q10;q10;", 3);
        faultOf("d7;q10;q5;", 3);
        faultOf("g17,1,0,0,0;g16,1,0,0,0;", 0);
        faultOf("g16,1,0,0,0;g17,1,0,0,0;", 12);
        faultOf("d0;r4,1;", 0);
        faultOf("r3,1;r4,1;", 5);
        // It is told where the ITEM begins, not where in it the wrong letter stands.
        faultOf("q1;g8,4,6,1,6;", 3);
        faultOf("q1;q2;q3;x", 9);
    }

    private static void lastOneCounts() {
        answers.about("of several the last one counts");
        SpeckValves x = laid("g16,16,20,5,5;g4,2,3,0,0;d1;d9;q9;q0;r2,1;");
        answers.due("W", x.count(0), 4);
        answers.due("V", x.count(1), 2);
        seen(x, 8900L, 0L, 8000L, 0L);
        answers.due("DARK", x.blob(0, 6), 1);
        answers.due("FALL, AHEAD, BEHIND, REST", openingsOf(x, 0), 3, 3, 5, 5);
        faultOf("g8,4,6,1,1;g8,4,6,1,6;", 11);
        faultOf("d1;d10;", 3);
        faultOf("q9;q10;", 3);
    }

    private static void withoutItems() {
        answers.about("8, 4, 6, 1, 1 and 7 and 2 without");
        SpeckValves x = laid("g16,2,20,5,5;d1;q9;r2,1;");
        tell(x, "r2,1;");
        answers.due("lay() answers W", x.lay(), 8);
        answers.due("V", x.count(1), 4);
        seen(x, 67000000L, 0L, 0L, 0L, 60000000L, 0L, 0L, 0L, 0L, 60000000L, 0L);
        answers.due("DARK", x.blob(0, 6), 1);
        // Wanted 5 to 7, 9 to 11 (one TICK between) and 14 to 16 (two between).
        answers.due("FALL, AHEAD, BEHIND, REST", openingsOf(x, 0), 5, 11, 14, 16);
    }

    private static void aRuleAtLeast() {
        answers.about("5 LAID with a RULE at least, NO else");
        for (String text : new String[] {"", "q2;", "g4,1,0,0,0;d7;q2;", "q2;".repeat(66)}) {
            SpeckValves x = new SpeckValves();
            tell(x, text);
            answers.due("fault() of " + text, x.fault(), NONE);
            answers.due("lay() of " + text, x.lay(), NO);
            answers.due("counts behind " + text, countsOf(x), 8, 4, 2, 0, 0, 0, 0, 0, 0, 0, 0, text.length());
            if (text.length() <= 195) {
                add(x, "r3,9;");
                answers.due("lay() with a RULE behind " + text, x.lay(), text.startsWith("g") ? 4 : 8);
            }
        }
    }

    private static void laidAnew() {
        answers.about("5 LAID: no LINE is seen, behind it no change can be UNDONE");
        SpeckValves x = laid("g4,1,0,0,5;r2,1;r3,2;");
        seen(x, 9L, 0L, 9L);
        x.rule(1, 7);
        answers.due("lay()", x.lay(), 4);
        answers.due("counts", countsOf(x), 4, 1, 2, 0, 0, 0, 0, 0, 0, 0, 0, 21);
        answers.due("NUMBER as LAID", x.told(1, 1), 2);
        answers.due("open(0)", x.open(0), 0);
        answers.due("open(1)", x.open(1), 0);
        answers.due("blob(0, 0)", x.blob(0, 0), BAD);
        answers.due("openings", x.opening(0, -1, 0), 0);
        answers.due("air(0)", x.air(0), 0);
        answers.due("gain()", x.gain(), ZERO);
        answers.due("undo()", x.undo(), NO);
        answers.due("clear()", x.clear(), NO);
        answers.due("a LINE hangs with none ahead of LAID", seen(x, 9L, 0L), 1);
        answers.due("it begins at TICK 0", x.blob(0, 0) + x.blob(0, 1), 0);
        answers.due("those can be UNDONE", x.undo(), 1);
        answers.due("those can be UNDONE to the end", x.undo(), 0);
        answers.due("and no more", x.undo(), NO);
    }

    private static void textStays() {
        answers.about("LAID, THE TEXT stays");
        SpeckValves x = laid("g4,1,0,0,0;r2,1;");
        answers.due("count(11) behind lay()", x.count(11), 16);
        answers.due("write behind lay()", x.write('r'), 17);
        answers.due("fault()", x.fault(), 16);
        answers.due("lay()", x.lay(), NO);
        add(x, "1,1;");
        answers.due("lay() of all", x.lay(), 4);
        answers.due("RULES", x.count(2), 2);
        seen(x, 1L);
        x.rule(0, 9);
        x.undo();
        x.clear();
        answers.due("no change takes a letter", x.count(11), 21);
        answers.due("undo() brings none back", x.wipe() + x.undo() + x.count(11), 21 + 1);
    }
}
