/** Promise 2: set. */
public final class SetTest {
    private static final int MIN = Integer.MIN_VALUE;
    private static final int MAX = Integer.MAX_VALUE;

    public static void main(String[] args) {
        answersValueBefore();
        setsAllFour();
        setsOnlyItsLevel();
        refusesOtherLevels();
        isNoRun();
        keepsWhatWasSet();
        refusesOnANewObject();
        Bench.end();
    }

    private static void answersValueBefore() {
        Bench bench = new Bench();
        int[] values = {7, -1, MIN, MAX, 0};
        for (int k = 0; k <= 5; k++) {
            int before = 0;
            for (int value : values) {
                bench.set(k, 1, 2, 3, value + k, Integer.toString(before));
                before = value + k;
            }
        }
    }

    private static void setsAllFour() {
        Bench bench = new Bench();
        bench.put(0, 1, 2, 0, 40);
        bench.run(0, 1, 5, Bench.GRIT);
        bench.out(1, 40, 1, 1, 5);
        bench.put(0, 2, 2, 0, 40);
        bench.run(0, 1, 5, Bench.GRIT);
        bench.out(1, 5, 0, 0, 0);
        bench.put(0, 1, 3, 0, 40);
        bench.run(0, 1, 5, Bench.SHARD);
        bench.put(0, 1, 3, 1, 40);
        bench.run(0, 1, 5, 40);
        bench.put(0, 1, 3, 1, 41);
        bench.run(0, 1, 5, 41);
        bench.put(0, MIN, MAX, MIN, MIN);
        bench.run(0, 0, 5, 5);
    }

    private static void setsOnlyItsLevel() {
        Bench bench = new Bench();
        bench.put(3, 31, 0, 0, 9);
        int[] dues = {0, 0, 0, 9, 0, 0};
        for (int k = 0; k <= 5; k++) {
            bench.set(k, 0, 0, 0, 0, Integer.toString(dues[k]));
        }
    }

    private static void refusesOtherLevels() {
        Bench bench = new Bench();
        for (int k = 0; k <= 5; k++) {
            bench.put(k, 0, 0, 0, 1 << k);
        }
        int[] others = {-1, 6, 7, MIN, MAX};
        for (int k : others) {
            bench.set(k, 31, 4, 2, 1000, Bench.NO_INDEX);
        }
        bench.run(5, 0, 100, 100 + 2 + 4 + 8 + 16 + 32);
        bench.notes(5, 4, 3, 2, 1, 0, 600, 601, 602, 603, 604, 605);
        for (int k = 0; k <= 5; k++) {
            bench.set(k, 0, 0, 0, 0, Integer.toString(1 << k));
        }
    }

    private static void isNoRun() {
        Bench bench = new Bench();
        bench.run(0, 2, 8, Bench.SHARD);
        bench.put(0, 31, 0, 1, 3);
        bench.set(6, 31, 0, 1, 3, Bench.NO_INDEX);
        bench.notes(0, 600);
        bench.count(1, "1");
        bench.out(2, 8, 0, 0, 0);
    }

    /** A RUN leaves the LEVELS as they are. */
    private static void keepsWhatWasSet() {
        Bench bench = new Bench();
        bench.put(0, 1, 3, 0, 40);
        bench.put(1, 2, 5, 0, 50);
        for (int run = 0; run < 3; run++) {
            bench.run(1, 1, 5, 100);
            bench.notes(1, 0, 100, 600, 201, 0, 600, 601);
        }
        bench.set(1, 0, 0, 0, 0, "50");
        bench.run(1, 1, 5, Bench.SHARD);
        bench.out(2, 40, 1, 1, 5);
        bench.set(0, 0, 0, 0, 0, "40");
    }

    private static void refusesOnANewObject() {
        Bench bench = new Bench();
        bench.set(6, 31, 0, 1, 9, Bench.NO_INDEX);
        bench.set(-1, 31, 0, 1, 9, Bench.NO_INDEX);
        bench.count(1, "0");
        bench.run(5, 1, 4, Bench.GRIT);
        for (int k = 0; k <= 5; k++) {
            bench.set(k, 0, 0, 0, 0, "0");
        }
    }
}
