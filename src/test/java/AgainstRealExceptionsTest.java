/** All promises at once: many rigs, each call of which is also asked of {@link RealRig}. */
public final class AgainstRealExceptionsTest {
    private static final int[] TAKES = {0, 1, 2, 3, 4, 8, 16, 24, 31, 31, 31, -1, ~31};
    private static final int[] THENS = {0, 1, 2, 3, 4, 5, 5, -1, Integer.MAX_VALUE};
    private static final int[] LASTS = {0, 0, 0, 0, 4, -1, 1, 2, 2, 3};
    private static final int[] VALUES = {0, 1, 2, 3, -1, 17, 250, -250, Integer.MAX_VALUE,
        Integer.MIN_VALUE};

    private long spread = 1;
    private UnwindRig rig;
    private RealRig real;

    public static void main(String[] args) {
        AgainstRealExceptionsTest test = new AgainstRealExceptionsTest();
        test.everyPairOfLevels();
        test.manyFullRigs();
        Bench.end();
    }

    private void begin() {
        rig = new UnwindRig();
        real = new RealRig();
    }

    private void everyPairOfLevels() {
        for (int below = 0; below < 24 * 4; below++) {
            for (int above = 0; above < 24 * 4; above++) {
                begin();
                setLevel(0, below);
                setLevel(1, above);
                for (int bottom = 0; bottom <= 7; bottom++) {
                    run(1, bottom, bottom * 3 - 6);
                    compareCounts();
                    compareNotes(12);
                }
            }
        }
    }

    /** One of 96: six THENS, four LASTS, four TAKES. */
    private void setLevel(int k, int choice) {
        int[] takes = {0, 1, 2, 31};
        set(k, takes[choice / 24], choice % 6, choice / 6 % 4, 10 * k + 10);
    }

    private void manyFullRigs() {
        for (int object = 0; object < 4000; object++) {
            begin();
            for (int k = 0; k < 6; k++) {
                setSome(k);
            }
            for (int turn = 0; turn < 5; turn++) {
                setSome(next(9) - 1);
                run(next(16) == 0 ? next(9) - 1 : 5 - next(3), next(10) - 1, pick(VALUES));
                compareCounts();
                compareNotes(66);
            }
        }
    }

    private void setSome(int k) {
        set(k, pick(TAKES), pick(THENS), pick(LASTS), pick(VALUES));
    }

    private void set(int k, int takes, int then, int last, int value) {
        Bench.due("set(" + k + ", ..)", Bench.setOf(rig, k, takes, then, last, value),
                real.set(k, takes, then, last, value));
    }

    private void run(int top, int bottom, int v) {
        Bench.due("run(" + top + ", " + bottom + ", " + v + ")", Bench.runOf(rig, top, bottom, v),
                real.run(top, bottom, v));
    }

    private void compareCounts() {
        for (int what = -1; what <= 7; what++) {
            Bench.due("count(" + what + ")", Bench.countOf(rig, what), real.count(what));
        }
    }

    private void compareNotes(int upTo) {
        for (int i = -1; i < upTo; i++) {
            Bench.due("note(" + i + ")", Bench.noteOf(rig, i), real.note(i));
        }
    }

    private int pick(int[] from) {
        return from[next(from.length)];
    }

    /** The same numbers in every run of this test. */
    private int next(int below) {
        spread = spread * 6364136223846793005L + 1442695040888963407L;
        return (int) ((spread >>> 33) % below);
    }
}
