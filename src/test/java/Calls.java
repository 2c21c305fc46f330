/** Runs of calls that tests make again and again, and what they ask then. */
abstract class Calls {
    static final int BAD = SpeckValves.BAD;
    static final int NO = SpeckValves.NO;
    static final int FULL = SpeckValves.FULL;
    static final int NONE = SpeckValves.NONE;
    static final int ZERO = SpeckValves.ZERO;
    static final int LEAST = Integer.MIN_VALUE;
    static final int MOST = Integer.MAX_VALUE;

    static final Answers answers = new Answers();

    static SpeckValves laid(String text) {
        SpeckValves x = new SpeckValves();
        tell(x, text);
        answers.due("lay() of " + text, x.lay() > 0 ? 1 : 0, 1);
        return x;
    }

    static void tell(SpeckValves x, String text) {
        x.wipe();
        add(x, text);
    }

    static void add(SpeckValves x, String text) {
        for (int i = 0; i < text.length(); i++) {
            x.write(text.charAt(i));
        }
    }

    /** Sees LINES, and answers how many ENDED by them together. */
    static int seen(SpeckValves x, long... lines) {
        int all = 0;
        for (long line : lines) {
            all += x.see(line);
        }
        return all;
    }

    static int seenTimes(SpeckValves x, int times, long... lines) {
        int all = 0;
        for (int i = 0; i < times; i++) {
            all += seen(x, lines);
        }
        return all;
    }

    /** A LINE of W CELLS with that COLOUR at one of them. */
    static long cellAt(int width, int cell, int colour) {
        return colour * tenTo(width - 1 - cell);
    }

    static long tenTo(int figures) {
        long ten = 1;
        for (int i = 0; i < figures; i++) {
            ten *= 10;
        }
        return ten;
    }

    static int[] blobOf(SpeckValves x, int b) {
        int[] all = new int[10];
        for (int what = 0; what < 10; what++) {
            all[what] = x.blob(b, what);
        }
        return all;
    }

    static int[] countsOf(SpeckValves x) {
        int[] all = new int[12];
        for (int what = 0; what < 12; what++) {
            all[what] = x.count(what);
        }
        return all;
    }

    /** First and last TICKS of all OPENINGS, one behind the other. */
    static int[] openingsOf(SpeckValves x, int j) {
        int[] all = new int[2 * Math.max(x.opening(j, -1, 0), 0)];
        for (int i = 0; i < all.length; i++) {
            all[i] = x.opening(j, i / 2, i % 2);
        }
        return all;
    }
}
