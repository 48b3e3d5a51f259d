/** Promise 5: count. */
public final class CountTest {
    public static void main(String[] args) {
        refusesOtherWhats();
        countsNotes();
        countsRuns();
        tellsKindAndNumber();
        tellsCauses();
        forgetsWithAnAnswer();
        staysBehindRefusedCalls();
        isNoChange();
        Bench.end();
    }

    private static void refusesOtherWhats() {
        Bench bench = new Bench();
        int[] others = {-1, 7, 8, 100, Integer.MIN_VALUE, Integer.MAX_VALUE};
        for (int what : others) {
            bench.count(what, Bench.NO_REFERENCE);
        }
        bench.run(0, 1, 4, Bench.GRIT);
        for (int what : others) {
            bench.count(what, Bench.NO_REFERENCE);
        }
        bench.notes(0, 600);
        bench.count(1, "1");
        bench.out(1, 4, 0, 0, 0);
    }

    private static void countsNotes() {
        Bench bench = new Bench();
        for (int top = 0; top <= 5; top++) {
            bench.run(top, 0, 1, 1);
            bench.count(0, Integer.toString(2 * top + 2));
        }
        for (int k = 0; k <= 5; k++) {
            bench.put(k, 31, 5, 2, k);
        }
        int[] dues = {2, 7, 17, 37, 77, 157};
        for (int top = 0; top <= 5; top++) {
            bench.run(top, 0, 1, Bench.GRIT);
            bench.count(0, Integer.toString(dues[top]));
        }
        bench.run(0, 1, 1, Bench.GRIT);
        bench.count(0, "3");
    }

    private static void countsRuns() {
        Bench bench = new Bench();
        bench.run(0, 0, 1, 1);
        bench.count(1, "1");
        bench.run(0, 6, 3, Bench.NO_INDEX);
        bench.count(1, "2");
        bench.run(6, 0, 1, Bench.NO_INDEX);
        bench.run(-1, 0, 1, Bench.NO_INDEX);
        bench.count(1, "2");
        bench.put(0, 31, 5, 0, 1);
        bench.run(0, 1, 1, 1);
        bench.count(1, "3");
        for (int i = 0; i < 400; i++) {
            bench.run(0, 0, 1, 1);
        }
        bench.count(1, "403");
    }

    private static void tellsKindAndNumber() {
        Bench bench = new Bench();
        bench.run(0, 1, -9, Bench.GRIT);
        bench.out(1, -9, 0, 0, 0);
        bench.run(0, 2, -9, Bench.SHARD);
        bench.out(2, -9, 0, 0, 0);
        bench.run(0, 3, -9, Bench.DIVISION);
        bench.out(3, 0, 0, 0, 0);
        bench.run(0, 4, -9, Bench.NO_REFERENCE);
        bench.out(4, 0, 0, 0, 0);
        bench.run(0, 6, -9, Bench.NO_INDEX);
        bench.out(5, 0, 0, 0, 0);
        bench.run(9, 1, -9, Bench.NO_INDEX);
        bench.out(5, 0, 0, 0, 0);
    }

    private static void tellsCauses() {
        Bench bench = new Bench();
        bench.put(0, 31, 3, 0, 11);
        bench.put(1, 31, 1, 0, 12);
        bench.put(2, 31, 2, 0, 13);
        bench.put(3, 1, 2, 0, 14);
        bench.put(4, 1, 4, 0, 15);
        bench.put(5, 4, 3, 0, 16);
        int[] bottoms = {1, 2, 3, 4, 6};
        for (int kind = 1; kind <= 5; kind++) {
            int number = kind <= 2 ? -3 : 0;
            int bottom = bottoms[kind - 1];
            bench.run(0, bottom, -3, Bench.SHARD);
            bench.out(2, 11, 1, kind, number);
            bench.run(1, bottom, -3, Bench.SHARD);
            bench.out(2, 11, 1, kind, number);
            bench.run(2, bottom, -3, Bench.GRIT);
            bench.out(1, 13, 2, kind, number);
            bench.run(3, bottom, -3, Bench.GRIT);
            bench.out(1, 14, 3, kind, number);
            bench.run(4, bottom, -3, Bench.DIVISION);
            bench.out(3, 0, 0, 0, 0);
            bench.run(5, bottom, -3, Bench.SHARD);
            bench.out(2, 16, 1, 3, 0);
        }
    }

    private static void forgetsWithAnAnswer() {
        Bench bench = new Bench();
        bench.put(0, 31, 3, 0, 11);
        bench.put(1, 31, 0, 0, 12);
        bench.put(2, 0, 0, 1, 13);
        bench.run(0, 1, 5, Bench.SHARD);
        bench.out(2, 11, 1, 1, 5);
        bench.run(1, 1, 5, 12);
        bench.out(0, 0, 0, 0, 0);
        bench.run(0, 1, 5, Bench.SHARD);
        bench.put(1, 0, 0, 0, 12);
        bench.run(2, 1, 5, 13);
        bench.out(0, 0, 0, 0, 0);
    }

    private static void refusedCalls(Bench bench) {
        int[] others = {-1, 6, Integer.MIN_VALUE, Integer.MAX_VALUE};
        for (int k : others) {
            bench.run(k, 1, 77, Bench.NO_INDEX);
            bench.set(k, 31, 0, 1, 77, Bench.NO_INDEX);
        }
        bench.note(-1, Bench.NO_INDEX);
        bench.count(7, Bench.NO_REFERENCE);
    }

    private static void staysBehindRefusedCalls() {
        Bench bench = new Bench();
        refusedCalls(bench);
        for (int what = 0; what <= 6; what++) {
            bench.count(what, "0");
        }
        bench.put(0, 31, 2, 0, 11);
        bench.put(1, 31, 3, 0, 12);
        bench.run(2, 2, -3, Bench.SHARD);
        refusedCalls(bench);
        bench.out(2, 12, 2, 2, -3);
        bench.count(1, "1");
        bench.notes(2, 1, 0, 200, 600, 101, 601, 602);
        bench.run(0, 0, -3, -3);
        refusedCalls(bench);
        bench.out(0, 0, 0, 0, 0);
        bench.count(1, "2");
        bench.notes(0, 600);
    }

    private static void isNoChange() {
        Bench bench = new Bench();
        bench.put(0, 31, 2, 0, 11);
        bench.run(0, 3, -3, Bench.GRIT);
        for (int turn = 0; turn < 3; turn++) {
            bench.count(0, "3");
            bench.count(1, "1");
            bench.out(1, 11, 1, 3, 0);
        }
    }
}
