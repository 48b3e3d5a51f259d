/** Promise 4: note. */
public final class NoteTest {
    public static void main(String[] args) {
        tellsNotesInOrder();
        keepsTheFirst64();
        keepsExactly64();
        knowsOnlyTheLatestRun();
        changesNothing();
        Bench.end();
    }

    private static void tellsNotesInOrder() {
        Bench bench = new Bench();
        bench.put(1, 8, 0, 0, 2);
        bench.run(2, 5, 0, 2);
        bench.notes(2, 1, 0, 600, 401, 601, 602);
        int[] none = {-1, 7, 8, 63, 64, 65, Integer.MIN_VALUE, Integer.MAX_VALUE};
        for (int i : none) {
            bench.note(i, Bench.NO_INDEX);
        }
    }

    /** A rig whose LEVELS all throw and all go down twice: 157 NOTES from LEVEL 5. */
    private static Bench doubling() {
        Bench bench = new Bench();
        for (int k = 0; k <= 5; k++) {
            bench.put(k, 31, 5, 2, k);
        }
        return bench;
    }

    private static void keepsTheFirst64() {
        Bench bench = doubling();
        bench.run(5, 0, 1, Bench.GRIT);
        bench.count(0, "157");
        int[] first = {5, 4, 3, 2, 1, 0, 600, 101, 0, 600, 601, 102, 1, 0, 600, 101, 0, 600, 601, 602};
        for (int i = 0; i < first.length; i++) {
            bench.note(i, Integer.toString(first[i]));
        }
        // LEVEL 4 goes down again behind 2 NOTES and the 37 of LEVEL 3; of the second 37 stand 24.
        bench.note(38, "603");
        bench.note(39, "104");
        bench.note(40, "3");
        bench.note(62, "600");
        bench.note(63, "101");
        bench.note(64, Bench.NO_INDEX);
        bench.note(156, Bench.NO_INDEX);
        bench.note(157, Bench.NO_INDEX);
        bench.note(-1, Bench.NO_INDEX);
    }

    private static void keepsExactly64() {
        Bench bench = new Bench();
        // LEVEL 0 makes 2 NOTES, LEVEL 1 5, and LEVELS 2, 3, 4, going down twice, 13, 29, 61.
        bench.put(0, 1, 1, 2, 0);
        bench.put(1, 1, 2, 0, 0);
        bench.put(2, 1, 5, 0, 0);
        bench.put(3, 1, 5, 0, 0);
        bench.put(4, 1, 5, 0, 0);
        bench.run(5, 0, 1, Bench.GRIT);
        bench.count(0, "63");
        bench.note(62, "605");
        bench.note(63, Bench.NO_INDEX);
        bench.put(5, 1, 0, 0, 8);
        bench.run(5, 0, 1, 8);
        bench.count(0, "64");
        bench.note(62, "105");
        bench.note(63, "605");
        bench.note(64, Bench.NO_INDEX);
        // A GRIT from the BOTTOM makes LEVEL 0 note one more on the first way.
        bench.run(5, 1, 1, 8);
        bench.count(0, "65");
        bench.note(63, "105");
        bench.note(64, Bench.NO_INDEX);
        bench.note(65, Bench.NO_INDEX);
    }

    private static void knowsOnlyTheLatestRun() {
        Bench bench = doubling();
        bench.run(5, 0, 1, Bench.GRIT);
        bench.run(9, 0, 1, Bench.NO_INDEX);
        bench.count(0, "157");
        bench.note(63, "101");
        bench.put(0, 0, 0, 0, 0);
        bench.run(0, 0, 1, 1);
        bench.notes(0, 600);
        bench.note(63, Bench.NO_INDEX);
    }

    private static void changesNothing() {
        Bench bench = new Bench();
        bench.run(1, 2, 8, Bench.SHARD);
        bench.note(0, "1");
        bench.note(0, "1");
        bench.note(99, Bench.NO_INDEX);
        bench.notes(1, 0, 600, 601);
        bench.count(1, "1");
        bench.out(2, 8, 0, 0, 0);
    }
}
