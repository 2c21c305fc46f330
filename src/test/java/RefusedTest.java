import java.util.ArrayList;
import java.util.Arrays;
import java.util.List;
import java.util.function.Consumer;
import java.util.function.ToIntFunction;

/**
 * "BAD, NO, NONE, FULL: of several the first in this order; nothing changes then." Each call that is refused is made
 * on one of two objects that are alike; both must answer alike then, and so on as they are UNDONE and go on.
 */
public final class RefusedTest extends Calls {
    public static void main(String[] args) {
        answers.about("refused on a new object");
        refusedInAny(x -> { });
        refusedAtFirst(x -> { });
        answers.about("refused behind some changes");
        Consumer<SpeckValves> some = RefusedTest::someChanges;
        refusedInAny(some);
        check(some, "rule(0, 4)", x -> x.rule(0, 4), NO);
        check(some, "blob(2, 0)", x -> x.blob(2, 0), BAD);
        check(some, "opening(0, 1, 0)", x -> x.opening(0, 1, 0), NONE);
        answers.about("refused behind more than six changes");
        refusedInAny(RefusedTest::manyChanges);
        check(RefusedTest::undoneSixTimes, "undo() of the seventh", SpeckValves::undo, NO);
        answers.about("refused behind 60 LINES");
        fullOfLines();
        answers.about("refused behind 24 BLOBS");
        fullOfBlobs();
        answers.about("refused with THE TEXT");
        refusedTexts();
        fullText();
        answers.about("refused behind all cleared, all UNDONE, LAID");
        refusedAtFirst(x -> tell(x, "q2;"));
        check(RefusedTest::cleared, "clear()", SpeckValves::clear, NO);
        check(RefusedTest::undone, "undo()", SpeckValves::undo, NO);
        check(RefusedTest::undone, "clear()", SpeckValves::clear, NO);
        check(RefusedTest::laidAnew, "undo()", SpeckValves::undo, NO);
        check(RefusedTest::laidAnew, "clear()", SpeckValves::clear, NO);
        answers.end();
    }

    private static void someChanges(SpeckValves x) {
        tell(x, "q5;");
        seen(x, 9000L, 50000L, 7L);
        x.rule(0, 4);
    }

    private static void manyChanges(SpeckValves x) {
        tell(x, "g4,2,4,1,0;r1,1;q1;");
        x.lay();
        seen(x, 1009L, 0L, 1090L);
        x.rule(0, 2);
        x.clear();
        seen(x, 99L, 10L, 0L);
        x.rule(0, 1);
        tell(x, "q");
    }

    private static void cleared(SpeckValves x) {
        manyChanges(x);
        x.clear();
    }

    private static void undone(SpeckValves x) {
        x.see(9L);
        x.undo();
    }

    private static void laidAnew(SpeckValves x) {
        manyChanges(x);
        tell(x, "r2,1;");
        x.lay();
    }

    private static void undoneSixTimes(SpeckValves x) {
        manyChanges(x);
        for (int i = 0; i < 6; i++) {
            x.undo();
        }
    }

    private static void fullOfLines() {
        Consumer<SpeckValves> state = x -> {
            tell(x, "g4,1,4,1,0;r1,1;");
            x.lay();
            seenTimes(x, 20, 9L, 1L, 0L);
        };
        refusedInAny(state);
        check(state, "see(0)", x -> x.see(0L), FULL);
        check(state, "see(9999)", x -> x.see(9999L), FULL);
        check(state, "BAD ahead of FULL: see(-1)", x -> x.see(-1L), BAD);
        check(state, "BAD ahead of FULL: see(10000)", x -> x.see(10000L), BAD);
    }

    private static void fullOfBlobs() {
        Consumer<SpeckValves> state = x -> {
            tell(x, "g4,1,4,1,0;r1,1;");
            x.lay();
            seenTimes(x, 12, 9001L, 0L);
        };
        refusedInAny(state);
        check(state, "see(0)", x -> x.see(0L), FULL);
        check(state, "see(9999)", x -> x.see(9999L), FULL);
        check(state, "BAD ahead of FULL: see(-1)", x -> x.see(-1L), BAD);
        check(state, "BAD ahead of FULL: see(10000)", x -> x.see(10000L), BAD);
        check(state, "blob(24, 0)", x -> x.blob(24, 0), BAD);
    }

    private static void refusedTexts() {
        String[] texts = {"", "q2;", "g4,1,0,0,0;d1;q0;", "g4,1,0,0,0;d1;q0;r2,1", "r0,0;", "r2,1;r2,1;r2,1;r2,1;r2,1;",
            "g17,1,0,0,0;r2,1;", "g4,1,0,0,0;r2,1;d0;", "r2,1;;"};
        int[] faults = {NONE, NONE, NONE, 17, 0, 20, 0, 16, 5};
        for (int i = 0; i < texts.length; i++) {
            String text = texts[i];
            Consumer<SpeckValves> state = x -> {
                someChanges(x);
                tell(x, text);
            };
            check(state, "lay() of " + text, SpeckValves::lay, NO);
            check(state, "fault() of " + text, SpeckValves::fault, faults[i]);
        }
    }

    private static void fullText() {
        Consumer<SpeckValves> state = x -> tell(x, "r2,1;" + "q0;".repeat(65));
        for (int letter : new int[] {32, 'q', ';', 126}) {
            check(state, "write(" + letter + ")", x -> x.write(letter), FULL);
        }
        check(state, "BAD ahead of FULL: write(31)", x -> x.write(31), BAD);
        check(state, "BAD ahead of FULL: write(127)", x -> x.write(127), BAD);
    }

    /** Calls that are BAD or NONE however things stand. */
    private static void refusedInAny(Consumer<SpeckValves> state) {
        for (int off : new int[] {31, 127, -1, 128, LEAST, MOST}) {
            check(state, "write(" + off + ")", x -> x.write(off), BAD);
        }
        for (long off : new long[] {-1, 100000000L, Long.MIN_VALUE, Long.MAX_VALUE}) {
            check(state, "see(" + off + ")", x -> x.see(off), BAD);
        }
        for (int off : new int[] {-1, 31, LEAST, MOST}) {
            check(state, "rule(" + off + ", 5)", x -> x.rule(off, 5), BAD);
            check(state, "blob(" + off + ", 0)", x -> x.blob(off, 0), BAD);
            check(state, "air(" + off + ")", x -> x.air(off), BAD);
            check(state, "opening(" + off + ", 0, 0)", x -> x.opening(off, 0, 0), BAD);
            check(state, "best(" + off + ", 0)", x -> x.best(off, 0), BAD);
            check(state, "told(" + off + ", 0)", x -> x.told(off, 0), BAD);
            check(state, "best(0, " + off + ")", x -> x.best(0, off), BAD);
            check(state, "told(0, " + off + ")", x -> x.told(0, off), BAD);
            check(state, "open(" + off + ")", x -> x.open(off), BAD);
            check(state, "count(" + off + ")", x -> x.count(off), BAD);
            check(state, "blob(0, " + off + ")", x -> x.blob(0, off), BAD);
            check(state, "opening(0, 0, " + off + ")", x -> x.opening(0, 0, off), BAD);
        }
        for (int off : new int[] {0, 100, -1, LEAST, MOST}) {
            check(state, "rule(0, " + off + ")", x -> x.rule(0, off), BAD);
        }
        check(state, "rule(0, as it is)", x -> x.rule(0, x.told(0, 1)), NO);
        check(state, "opening(0, -2, 0)", x -> x.opening(0, -2, 0), BAD);
        check(state, "opening(0, 31, 0)", x -> x.opening(0, 31, 0), NONE);
        check(state, "opening(0, MOST, 1)", x -> x.opening(0, MOST, 1), NONE);
        check(state, "BAD ahead of NONE: opening(0, 31, 2)", x -> x.opening(0, 31, 2), BAD);
        check(state, "BAD ahead of NONE: opening(16, 31, 0)", x -> x.opening(16, 31, 0), BAD);
    }

    /** Calls that are NO where nothing is seen, changed or written that could be LAID. */
    private static void refusedAtFirst(Consumer<SpeckValves> state) {
        check(state, "lay()", SpeckValves::lay, NO);
        check(state, "fault()", SpeckValves::fault, NONE);
        check(state, "clear()", SpeckValves::clear, NO);
        check(state, "undo()", SpeckValves::undo, NO);
        check(state, "rule(0, 5)", x -> x.rule(0, 5), NO);
        check(state, "rule(1, 2)", x -> x.rule(1, 2), NO);
        check(state, "BAD ahead of NO: rule(2, 5)", x -> x.rule(2, 5), BAD);
    }

    private static SpeckValves made(Consumer<SpeckValves> state) {
        SpeckValves x = new SpeckValves();
        state.accept(x);
        return x;
    }

    private static void check(Consumer<SpeckValves> state, String call, ToIntFunction<SpeckValves> refused, int want) {
        int changes = made(state).count(10);
        for (int back = 0; back <= changes; back++) {
            SpeckValves plain = made(state);
            SpeckValves other = made(state);
            answers.due(call, refused.applyAsInt(other), want);
            for (int i = 0; i < back; i++) {
                answers.due(call + ", then undo()", other.undo(), plain.undo());
            }
            same(call + ", UNDONE " + back, plain, other);
            goesOn(call + ", UNDONE " + back, plain, other);
        }
    }

    private static void same(String call, SpeckValves plain, SpeckValves other) {
        int[] want = pictureOf(plain);
        int[] got = pictureOf(other);
        answers.due(call + ": is as it was", Arrays.equals(want, got) ? 1 : 0, 1);
    }

    private static void goesOn(String call, SpeckValves plain, SpeckValves other) {
        answers.due(call + ", then see(9)", other.see(9L), plain.see(9L));
        answers.due(call + ", then see(0)", other.see(0L), plain.see(0L));
        answers.due(call + ", then gain()", other.gain(), plain.gain());
        answers.due(call + ", then write('q')", other.write('q'), plain.write('q'));
        answers.due(call + ", then fault()", other.fault(), plain.fault());
        answers.due(call + ", then lay()", other.lay(), plain.lay());
        answers.due(call + ", then counts", countsOf(other), countsOf(plain));
    }

    /** All that can be asked: for what is made here, some 300 calls, so an object stays below 512. */
    private static int[] pictureOf(SpeckValves x) {
        List<Integer> all = new ArrayList<>();
        for (int one : countsOf(x)) {
            all.add(one);
        }
        all.add(x.fault());
        all.add(x.open(0));
        all.add(x.open(1));
        all.add(x.gain());
        for (int k = 0; k < x.count(2); k++) {
            all.add(x.told(k, 0));
            all.add(x.told(k, 1));
            all.add(x.told(k, 2));
            all.add(x.best(k, 0));
            all.add(x.best(k, 1));
        }
        for (int j = 0; j < x.count(1); j++) {
            all.add(x.air(j));
            for (int tick : openingsOf(x, j)) {
                all.add(tick);
            }
        }
        for (int b = 0; b < x.count(4); b++) {
            for (int one : blobOf(x, b)) {
                all.add(one);
            }
        }
        return all.stream().mapToInt(Integer::intValue).toArray();
    }
}
