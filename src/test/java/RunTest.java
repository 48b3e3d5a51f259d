/** Promise 3: run, with each BOTTOM, TAKES, THEN and LAST. */
public final class RunTest {
    private static final int MIN = Integer.MIN_VALUE;
    private static final int MAX = Integer.MAX_VALUE;
    private static final int[] NO_LEVELS = {-1, 6, 7, 31, MIN, MAX};

    public static void main(String[] args) {
        refusesOtherLevels();
        looksAtTopFirst();
        addsValuesAsLongs();
        reachesEachBottom();
        looksUpSevens();
        notesThreeCalls();
        takesOnlyItsOwnBit();
        doesEachThen();
        goesDownOnceMore();
        doesNotCatchFromSecondWayDown();
        secondWayDownHasItsOwnValue();
        thenDivisionIsNotCaughtHere();
        wrapsAllTheWay();
        doesEachLastBehindAnAnswer();
        doesEachLastBehindAThrow();
        lastThrowsAreCaughtAbove();
        throwsOutEachKind();
        beginsAnew();
        Bench.end();
    }

    private static void refusesOtherLevels() {
        Bench bench = new Bench();
        bench.put(0, 0, 0, 0, 4);
        bench.run(1, 2, 8, Bench.SHARD);
        for (int top : NO_LEVELS) {
            bench.run(top, 0, 1, Bench.NO_INDEX);
            bench.run(top, 1, 1, Bench.NO_INDEX);
        }
        bench.notes(1, 0, 600, 601);
        bench.count(1, "1");
        bench.out(2, 8, 0, 0, 0);
        bench.set(0, 0, 0, 0, 0, "4");
    }

    /** Whatever the BOTTOM would do: no LEVEL top is all that counts, on a new object, too. */
    private static void looksAtTopFirst() {
        for (int top : NO_LEVELS) {
            Bench bench = new Bench();
            for (int bottom = -1; bottom <= 8; bottom++) {
                bench.run(top, bottom, 5, Bench.NO_INDEX);
            }
            bench.notes();
            bench.count(1, "0");
            bench.out(0, 0, 0, 0, 0);
            bench.run(5, 0, 5, 5);
            bench.count(1, "1");
        }
    }

    private static void addsValuesAsLongs() {
        Bench bench = new Bench();
        bench.put(0, 0, 0, 0, 1000);
        bench.run(0, 0, 5, 5);
        bench.put(1, 0, 0, 0, MAX);
        bench.run(1, 0, MAX, 2L * MAX);
        for (int k = 1; k <= 5; k++) {
            bench.put(k, 0, 0, 0, MIN);
        }
        bench.run(5, 0, MIN, 6L * MIN);
        bench.run(2, 0, -1, 2L * MIN - 1);
    }

    private static void reachesEachBottom() {
        Bench bench = new Bench();
        int[] answering = {0, 8, -1, 9, 100, MIN, MAX};
        for (int bottom : answering) {
            bench.run(0, bottom, -12, -12);
            bench.notes(0, 600);
        }
        bench.run(0, 1, MIN, Bench.GRIT);
        bench.out(1, MIN, 0, 0, 0);
        bench.run(0, 2, MAX, Bench.SHARD);
        bench.out(2, MAX, 0, 0, 0);
        bench.run(0, 3, 9, Bench.DIVISION);
        bench.out(3, 0, 0, 0, 0);
        bench.run(0, 3, 0, Bench.DIVISION);
        bench.run(0, 4, 9, Bench.NO_REFERENCE);
        bench.out(4, 0, 0, 0, 0);
        bench.run(0, 5, 9, Bench.NO_REFERENCE);
        bench.out(4, 0, 0, 0, 0);
        bench.run(0, 6, 9, Bench.NO_INDEX);
        bench.out(5, 0, 0, 0, 0);
        bench.run(0, 7, 9, Bench.GRIT);
        bench.out(1, 9, 0, 0, 0);
    }

    private static void looksUpSevens() {
        Bench bench = new Bench();
        for (int v = 0; v <= 2; v++) {
            bench.run(0, 6, v, 7);
            bench.out(0, 0, 0, 0, 0);
        }
        int[] outside = {-1, 3, MIN, MAX};
        for (int v : outside) {
            bench.run(0, 6, v, Bench.NO_INDEX);
            bench.notes(0, 600);
            bench.out(5, 0, 0, 0, 0);
        }
        bench.count(1, "7");
    }

    private static void notesThreeCalls() {
        Bench bench = new Bench();
        bench.run(1, 7, 250, Bench.GRIT);
        bench.notes(1, 0, 750, 750, 750, 600, 601);
        bench.out(1, 250, 0, 0, 0);
        bench.run(0, 7, -250, Bench.GRIT);
        bench.notes(0, 650, 650, 650, 600);
        bench.run(0, 7, MIN, Bench.GRIT);
        bench.notes(0, 652, 652, 652, 600);
        bench.run(0, 7, 99, Bench.GRIT);
        bench.notes(0, 799, 799, 799, 600);
    }

    private static void takesOnlyItsOwnBit() {
        for (int kind = 1; kind <= 5; kind++) {
            Bench bench = new Bench();
            int bit = 1 << (kind - 1);
            bench.put(0, bit, 0, 0, 55);
            bench.run(0, Bench.BOTTOM_OF_KIND[kind], -1, 55);
            bench.notes(0, 100 * kind, 600);
            bench.put(0, ~31 | bit, 0, 0, 56);
            bench.run(0, Bench.BOTTOM_OF_KIND[kind], -1, 56);
            bench.put(0, ~bit, 0, 0, 55);
            bench.run(0, Bench.BOTTOM_OF_KIND[kind], -1, Bench.OUT_OF_RUN[kind]);
            bench.notes(0, 600);
            bench.put(0, MIN, 0, 0, 55);
            bench.run(0, Bench.BOTTOM_OF_KIND[kind], -1, Bench.OUT_OF_RUN[kind]);
        }
        Bench bench = new Bench();
        bench.put(0, -1, 0, 0, 5);
        bench.run(0, 0, 3, 3);
        bench.notes(0, 600);
    }

    private static void doesEachThen() {
        Bench bench = new Bench();
        bench.put(1, 0, 0, 0, 1000);
        bench.put(0, 2, 0, 0, -4);
        bench.run(1, 2, 9, 996);
        bench.notes(1, 0, 200, 600, 601);
        bench.put(0, 2, 1, 0, -4);
        bench.run(1, 2, 9, Bench.SHARD);
        bench.notes(1, 0, 200, 600, 601);
        bench.out(2, 9, 0, 0, 0);
        bench.put(0, 2, 2, 0, -4);
        bench.run(1, 2, 9, Bench.GRIT);
        bench.out(1, -4, 1, 2, 9);
        bench.put(0, 2, 3, 0, -4);
        bench.run(1, 2, 9, Bench.SHARD);
        bench.out(2, -4, 1, 2, 9);
        bench.put(0, 2, 4, 0, -4);
        bench.run(1, 2, 9, Bench.DIVISION);
        bench.notes(1, 0, 200, 600, 601);
        bench.out(3, 0, 0, 0, 0);
        int[] others = {5, 6, -1, MIN, MAX};
        for (int then : others) {
            bench.put(0, 2, then, 0, -4);
            bench.run(1, 2, 9, 996);
            bench.notes(1, 0, 200, 600, 601);
            bench.out(0, 0, 0, 0, 0);
        }
    }

    private static void goesDownOnceMore() {
        Bench bench = new Bench();
        bench.put(0, 0, 0, 0, 5000);
        bench.put(1, 0, 0, 0, 10);
        bench.put(2, 16, 5, 0, 300);
        bench.put(3, 0, 0, 0, 7);
        // 300 at the BOTTOM, then the VALUES of 1, 2 and 3.
        bench.run(3, 6, 3, 300 + 10 + 300 + 7);
        bench.notes(3, 2, 1, 0, 600, 601, 502, 1, 0, 600, 601, 602, 603);
        bench.put(2, 16, 5, 0, MAX);
        bench.run(2, 6, 3, 2L * MAX + 10);
    }

    private static void doesNotCatchFromSecondWayDown() {
        Bench bench = new Bench();
        bench.put(0, 0, 0, 2, 3);
        bench.put(1, 1, 5, 0, 20);
        bench.run(1, 0, 9, Bench.GRIT);
        bench.notes(1, 0, 600, 101, 0, 600, 601);
        bench.out(1, 3, 0, 0, 0);
        bench.put(2, 1, 2, 0, 30);
        bench.run(2, 4, 9, Bench.GRIT);
        bench.notes(2, 1, 0, 600, 101, 0, 600, 601, 102, 602);
        bench.out(1, 30, 1, 1, 3);
    }

    private static void secondWayDownHasItsOwnValue() {
        Bench bench = new Bench();
        bench.put(0, 31, 5, 0, 4);
        bench.put(1, 31, 1, 3, 50);
        bench.put(2, 4, -1, 1, 600);
        bench.put(3, 0, 0, 0, 1);
        bench.run(3, 1, 9, 601);
        bench.notes(3, 2, 1, 0, 100, 600, 601, 302, 1, 0, 600, 601, 602, 603);
    }

    private static void thenDivisionIsNotCaughtHere() {
        Bench bench = new Bench();
        bench.put(0, 31, 4, 0, 0);
        bench.put(1, 4, 2, 0, 6);
        bench.run(1, 1, 5, Bench.GRIT);
        bench.notes(1, 0, 100, 600, 301, 601);
        bench.out(1, 6, 1, 3, 0);
    }

    private static void wrapsAllTheWay() {
        Bench bench = new Bench();
        for (int k = 0; k <= 5; k++) {
            bench.put(k, 31, k % 2 == 0 ? 2 : 3, 0, 10 + k);
        }
        bench.run(5, 2, -77, Bench.SHARD);
        bench.out(2, 15, 6, 2, -77);
        bench.notes(5, 4, 3, 2, 1, 0, 200, 600, 101, 601, 202, 602, 103, 603, 204, 604, 105, 605);
        bench.run(4, 6, 3, Bench.GRIT);
        bench.out(1, 14, 5, 5, 0);
    }

    private static void doesEachLastBehindAnAnswer() {
        Bench bench = new Bench();
        bench.put(1, 0, 0, 1, 20);
        bench.run(1, 0, 9, 20);
        bench.notes(1, 0, 600, 601);
        bench.put(1, 0, 0, 2, 20);
        bench.run(1, 0, 9, Bench.GRIT);
        bench.notes(1, 0, 600, 601);
        bench.out(1, 20, 0, 0, 0);
        bench.put(1, 0, 0, 3, 20);
        bench.run(1, 0, 9, Bench.DIVISION);
        bench.notes(1, 0, 600, 601);
        bench.out(3, 0, 0, 0, 0);
        int[] others = {0, 4, -1, MIN, MAX};
        for (int last : others) {
            bench.put(1, 0, 0, last, 20);
            bench.run(1, 0, 9, 29);
            bench.notes(1, 0, 600, 601);
        }
    }

    private static void doesEachLastBehindAThrow() {
        Bench bench = new Bench();
        bench.put(0, 0, 0, 1, 20);
        bench.run(0, 2, 9, 20);
        bench.out(0, 0, 0, 0, 0);
        bench.put(0, 2, 3, 1, 20);
        bench.run(0, 2, 9, 20);
        bench.notes(0, 200, 600);
        bench.put(0, 2, 3, 2, 20);
        bench.run(0, 2, 9, Bench.GRIT);
        bench.notes(0, 200, 600);
        bench.out(1, 20, 0, 0, 0);
        bench.put(0, 2, 3, 3, 20);
        bench.run(0, 2, 9, Bench.DIVISION);
        bench.notes(0, 200, 600);
        bench.out(3, 0, 0, 0, 0);
        bench.put(0, 0, 0, 4, 20);
        bench.run(0, 2, 9, Bench.SHARD);
        bench.notes(0, 600);
        bench.out(2, 9, 0, 0, 0);
    }

    private static void lastThrowsAreCaughtAbove() {
        Bench bench = new Bench();
        bench.put(0, 31, 0, 3, 20);
        bench.put(1, 31, 0, 2, 21);
        bench.put(2, 1, 3, 0, 22);
        bench.run(2, 0, 9, Bench.SHARD);
        bench.notes(2, 1, 0, 600, 301, 601, 102, 602);
        bench.out(2, 22, 1, 1, 21);
    }

    private static void throwsOutEachKind() {
        for (int top = 0; top <= 5; top++) {
            for (int kind = 1; kind <= 5; kind++) {
                Bench bench = new Bench();
                bench.run(top, Bench.BOTTOM_OF_KIND[kind], -1, Bench.OUT_OF_RUN[kind]);
                bench.out(kind, kind <= 2 ? -1 : 0, 0, 0, 0);
                bench.count(0, Integer.toString(2 * top + 2));
                bench.count(1, "1");
            }
        }
    }

    private static void beginsAnew() {
        Bench bench = new Bench();
        bench.put(0, 31, 2, 0, 3);
        bench.run(3, 1, 9, Bench.GRIT);
        bench.run(0, 0, 9, 9);
        bench.notes(0, 600);
        bench.out(0, 0, 0, 0, 0);
        bench.count(1, "2");
        bench.run(0, 4, 9, Bench.GRIT);
        bench.out(1, 3, 1, 4, 0);
    }
}
