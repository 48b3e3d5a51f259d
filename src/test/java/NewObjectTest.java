/** Promise 1: what a new object holds. */
public final class NewObjectTest {
    public static void main(String[] args) {
        nothingHasRun();
        levelsHoldZero();
        levelsTakeNothing();
        objectsShareNothing();
        Bench.end();
    }

    private static void nothingHasRun() {
        Bench bench = new Bench();
        for (int what = 0; what <= 6; what++) {
            bench.count(what, "0");
        }
        bench.notes();
        bench.note(-1, Bench.NO_INDEX);
        bench.note(63, Bench.NO_INDEX);
    }

    private static void levelsHoldZero() {
        Bench bench = new Bench();
        for (int k = 0; k <= 5; k++) {
            bench.set(k, 0, 0, 0, 0, "0");
        }
        bench = new Bench();
        bench.run(5, 0, 9, 9);
        bench.notes(5, 4, 3, 2, 1, 0, 600, 601, 602, 603, 604, 605);
    }

    private static void levelsTakeNothing() {
        for (int kind = 1; kind <= 5; kind++) {
            Bench bench = new Bench();
            bench.run(5, Bench.BOTTOM_OF_KIND[kind], -9, Bench.OUT_OF_RUN[kind]);
            bench.notes(5, 4, 3, 2, 1, 0, 600, 601, 602, 603, 604, 605);
            bench.out(kind, kind <= 2 ? -9 : 0, 0, 0, 0);
        }
    }

    private static void objectsShareNothing() {
        Bench used = new Bench();
        used.put(0, 31, 2, 0, 8);
        used.run(0, 1, 5, Bench.GRIT);
        Bench bench = new Bench();
        bench.notes();
        bench.count(1, "0");
        bench.out(0, 0, 0, 0, 0);
        bench.run(0, 2, 5, Bench.SHARD);
        bench.set(0, 0, 0, 0, 0, "0");
        used.notes(0, 100, 600);
        used.out(1, 8, 1, 1, 5);
    }
}
