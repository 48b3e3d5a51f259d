/** The document's Terms: what each of the six LEVELS does, its other numbers and the ends of int. */
public final class LevelTest {
    private static final int MIN = Integer.MIN_VALUE;
    private static final int MAX = Integer.MAX_VALUE;
    private static final int[] ENDS = {MIN, -1, 0, 1, MAX};
    private static final int[] OTHER_BOTTOMS = {8, 9, 16, 100, -1, -2, -7, MIN, MAX};
    private static final int[] OTHER_THENS = {5, 6, 7, 16, 100, -1, -2, -4, MIN, MAX};
    private static final int[] OTHER_LASTS = {4, 5, 16, 100, -1, -2, -3, MIN, MAX};

    public static void main(String[] args) {
        notesWhatItCaught();
        takesKindByKind();
        leavesWhatIsNotTaken();
        answersItsValueAlone();
        throwsOnTheSame();
        wrapsWhatItCaught();
        dividesWhateverItsValue();
        goesDownAgainForOtherThens();
        secondWayIsNotCaughtHere();
        lastComesBehindTheSecondWay();
        lastAnswersWhateverWas();
        lastThrowsWhateverWas();
        lastDividesWhateverWas();
        otherLastsDoNothingMore();
        otherBottomsAnswer();
        deepCallsNoteTheRest();
        addsBeyondInt();
        Bench.end();
    }

    private static Bench oneLevel(int k, int takes, int then, int last, int value) {
        Bench bench = new Bench();
        bench.put(k, takes, then, last, value);
        return bench;
    }

    /** The NOTES of one way from LEVEL 5 on which LEVEL k alone caught something. */
    private static int[] notesWithCatch(int k, int kind) {
        int[] notes = new int[13];
        for (int level = 0; level <= 5; level++) {
            notes[5 - level] = level;
            notes[6 + level + (level >= k ? 1 : 0)] = 600 + level;
        }
        notes[6 + k] = 100 * kind + k;
        return notes;
    }

    private static void notesWhatItCaught() {
        for (int k = 0; k <= 5; k++) {
            for (int kind = 1; kind <= 5; kind++) {
                Bench bench = oneLevel(k, 31, 0, 0, 70);
                bench.run(5, Bench.BOTTOM_OF_KIND[kind], -3, 70);
                bench.notes(notesWithCatch(k, kind));
            }
        }
    }

    /** A SHARD is not taken as the GRIT that it is, too, and bits that no KIND has mean nothing. */
    private static void takesKindByKind() {
        int[] higherBits = {0, 32, 64 + 256, 1 << 30, MAX - 31, MIN, ~31};
        for (int k = 0; k <= 5; k++) {
            for (int bits = 0; bits <= 31; bits++) {
                takesKindByKind(k, bits, bits | higherBits[(k + bits) % higherBits.length]);
            }
        }
    }

    private static void takesKindByKind(int k, int bits, int takes) {
        Bench bench = oneLevel(k, takes, 0, 0, 70);
        for (int kind = 1; kind <= 5; kind++) {
            boolean taken = (bits >> kind - 1) % 2 == 1;
            bench.run(5, Bench.BOTTOM_OF_KIND[kind], -3, taken ? "70" : Bench.OUT_OF_RUN[kind]);
            bench.count(0, taken ? "13" : "12");
        }
    }

    private static void leavesWhatIsNotTaken() {
        Bench bench = oneLevel(0, ~2, 0, 0, 10);
        bench.put(1, ~2, 2, 0, 11);
        bench.put(2, 32, 4, 0, 12);
        bench.put(3, 2, 0, 0, 13);
        bench.put(4, 31, 2, 0, 14);
        bench.run(4, 2, 9, 13 + 14);
        bench.notes(4, 3, 2, 1, 0, 600, 601, 602, 203, 603, 604);
        bench.run(2, 2, 9, Bench.SHARD);
        bench.out(2, 9, 0, 0, 0);
    }

    private static void answersItsValueAlone() {
        for (int k = 0; k <= 5; k++) {
            for (int value : ENDS) {
                Bench bench = oneLevel(k, 4, 0, 0, value);
                bench.run(k, 3, 9, value);
                bench.out(0, 0, 0, 0, 0);
                bench.run(5, 3, 9, value);
            }
        }
    }

    private static void throwsOnTheSame() {
        for (int k = 0; k <= 5; k++) {
            for (int kind = 1; kind <= 5; kind++) {
                Bench bench = oneLevel(k, 31, 1, 0, 70);
                bench.run(5, Bench.BOTTOM_OF_KIND[kind], -3, Bench.OUT_OF_RUN[kind]);
                bench.notes(notesWithCatch(k, kind));
                bench.out(kind, kind <= 2 ? -3 : 0, 0, 0, 0);
            }
        }
        // The same is thrown on with its CAUSES.
        Bench bench = oneLevel(0, 31, 3, 0, 10);
        bench.put(1, 31, 1, 0, 11);
        bench.put(2, 31, 2, 0, 12);
        bench.put(3, 31, 1, 0, 13);
        bench.run(3, 1, MIN, Bench.GRIT);
        bench.out(1, 12, 2, 1, MIN);
    }

    private static void wrapsWhatItCaught() {
        for (int k = 0; k <= 5; k++) {
            for (int value : ENDS) {
                Bench bench = oneLevel(k, 31, 2, 0, value);
                bench.run(5, 2, MAX, Bench.GRIT);
                bench.notes(notesWithCatch(k, 2));
                bench.out(1, value, 1, 2, MAX);
                bench.put(k, 31, 3, 0, value);
                bench.run(5, 1, MIN, Bench.SHARD);
                bench.notes(notesWithCatch(k, 1));
                bench.out(2, value, 1, 1, MIN);
            }
        }
    }

    private static void dividesWhateverItsValue() {
        for (int k = 0; k <= 5; k++) {
            for (int value : ENDS) {
                Bench bench = oneLevel(k, 3, 4, 0, value);
                bench.run(5, 2, 9, Bench.DIVISION);
                bench.notes(notesWithCatch(k, 2));
                bench.out(3, 0, 0, 0, 0);
                bench.run(k, 3, value, Bench.DIVISION);
                bench.out(3, 0, 0, 0, 0);
            }
        }
    }

    private static void goesDownAgainForOtherThens() {
        for (int then : OTHER_THENS) {
            for (int value : ENDS) {
                Bench bench = oneLevel(0, 8, then, 0, value);
                // LEVEL 0 goes down to the BOTTOM, which answers its VALUE.
                bench.run(1, 4, 9, value);
                bench.notes(1, 0, 400, 600, 601);
                bench = oneLevel(2, 8, then, 0, value);
                bench.put(0, 0, 0, 0, 1000);
                bench.put(1, 0, 0, 0, 100);
                bench.run(2, 5, 9, 2L * value + 100);
                bench.notes(2, 1, 0, 600, 601, 402, 1, 0, 600, 601, 602);
                bench.out(0, 0, 0, 0, 0);
            }
        }
    }

    private static void secondWayIsNotCaughtHere() {
        Bench bench = oneLevel(0, 0, 0, 3, 3);
        bench.put(1, 31, 5, 0, 20);
        bench.run(1, 1, 9, Bench.DIVISION);
        bench.notes(1, 0, 600, 301, 0, 600, 601);
        bench.out(3, 0, 0, 0, 0);
        // A LEVEL below makes a SHARD of it; it is not caught again, and what was caught is no CAUSE.
        bench.put(0, 0, 0, 2, 3);
        bench.put(1, 1, 3, 0, 20);
        bench.put(2, 31, -1, 0, 30);
        bench.put(3, 2, 2, 0, 40);
        bench.run(2, 4, 9, Bench.SHARD);
        bench.notes(2, 1, 0, 600, 101, 601, 202, 1, 0, 600, 101, 601, 602);
        bench.out(2, 20, 1, 1, 3);
        bench.run(3, 4, 9, Bench.GRIT);
        bench.out(1, 40, 2, 1, 3);
    }

    private static void lastComesBehindTheSecondWay() {
        Bench bench = oneLevel(0, 0, 0, 2, 3);
        bench.put(1, 1, 5, 1, 20);
        bench.run(1, 0, 9, 20);
        bench.notes(1, 0, 600, 101, 0, 600, 601);
        bench.put(1, 1, 5, 2, 21);
        bench.run(1, 0, 9, Bench.GRIT);
        bench.out(1, 21, 0, 0, 0);
        bench.put(1, 1, 5, 3, 22);
        bench.run(1, 0, 9, Bench.DIVISION);
        bench.notes(1, 0, 600, 101, 0, 600, 601);
        bench.out(3, 0, 0, 0, 0);
    }

    /** The LAST and VALUE behind an answer, behind something thrown, caught, wrapped and divided. */
    private static void lastWhateverWas(int k, int last, int value, String want) {
        Bench bench = oneLevel(k, 0, 0, last, value);
        bench.run(k, 0, 5, want);
        bench.count(0, Integer.toString(2 * k + 2));
        bench.count(4, "0");
        for (int kind = 1; kind <= 5; kind++) {
            bench.run(k, Bench.BOTTOM_OF_KIND[kind], -3, want);
            bench.count(0, Integer.toString(2 * k + 2));
            bench.count(4, "0");
        }
        for (int then = 0; then <= 4; then++) {
            bench.put(k, 31, then, last, value);
            bench.run(k, 2, -3, want);
            bench.count(0, Integer.toString(2 * k + 3));
            bench.note(2 * k + 2, Integer.toString(600 + k));
            bench.count(4, "0");
        }
    }

    private static void lastAnswersWhateverWas() {
        for (int k = 0; k <= 5; k++) {
            for (int value : ENDS) {
                lastWhateverWas(k, 1, value, Integer.toString(value));
            }
        }
        Bench bench = oneLevel(1, 0, 0, 1, 20);
        bench.put(2, 0, 0, 0, 300);
        bench.run(2, 3, 9, 320);
    }

    private static void lastThrowsWhateverWas() {
        for (int k = 0; k <= 5; k++) {
            for (int value : ENDS) {
                lastWhateverWas(k, 2, value, Bench.GRIT);
                Bench bench = oneLevel(k, 31, 3, 2, value);
                bench.run(5, 4, 9, Bench.GRIT);
                bench.notes(notesWithCatch(k, 4));
                bench.out(1, value, 0, 0, 0);
            }
        }
    }

    private static void lastDividesWhateverWas() {
        for (int k = 0; k <= 5; k++) {
            for (int value : ENDS) {
                lastWhateverWas(k, 3, value, Bench.DIVISION);
                Bench bench = oneLevel(k, 31, 3, 3, value);
                bench.run(5, 1, 9, Bench.DIVISION);
                bench.notes(notesWithCatch(k, 1));
                bench.out(3, 0, 0, 0, 0);
            }
        }
    }

    private static void otherLastsDoNothingMore() {
        for (int k = 0; k <= 5; k++) {
            for (int last : OTHER_LASTS) {
                Bench bench = oneLevel(k, 2, 3, last, 20);
                bench.run(k, 0, 9, k == 0 ? 9 : 29);
                bench.count(0, Integer.toString(2 * k + 2));
                bench.run(k, 6, 9, Bench.NO_INDEX);
                bench.count(0, Integer.toString(2 * k + 2));
                bench.out(5, 0, 0, 0, 0);
                bench.run(5, 2, 9, Bench.SHARD);
                bench.notes(notesWithCatch(k, 2));
                bench.out(2, 20, 1, 2, 9);
            }
        }
    }

    private static void otherBottomsAnswer() {
        for (int bottom : OTHER_BOTTOMS) {
            for (int v : ENDS) {
                Bench bench = oneLevel(0, 31, 2, 0, 50);
                bench.put(2, 31, 2, 0, 300);
                bench.run(3, bottom, v, 300L + v);
                bench.notes(3, 2, 1, 0, 600, 601, 602, 603);
                bench.out(0, 0, 0, 0, 0);
            }
        }
    }

    private static void deepCallsNoteTheRest() {
        int[] vs = {0, 1, -1, 99, -99, 100, -100, 101, -101, MAX, MIN};
        int[] rests = {0, 1, -1, 99, -99, 0, 0, 1, -1, 47, -48};
        for (int i = 0; i < vs.length; i++) {
            Bench bench = oneLevel(0, 1, 2, 0, 4);
            int note = 700 + rests[i];
            bench.run(0, 7, vs[i], Bench.GRIT);
            bench.notes(0, note, note, note, 100, 600);
            bench.out(1, 4, 1, 1, vs[i]);
            // The second way ends at BOTTOM 0, where no calls are.
            bench.put(0, 1, 5, 0, 4);
            bench.run(0, 7, vs[i], 4);
            bench.notes(0, note, note, note, 100, 600);
        }
    }

    private static void addsBeyondInt() {
        Bench bench = new Bench();
        for (int k = 1; k <= 5; k++) {
            bench.put(k, 0, 0, 0, MIN);
            bench.run(k, 0, MIN, (k + 1L) * MIN);
            bench.run(k, 6, 0, 7 + (long) k * MIN);
        }
        for (int k = 1; k <= 5; k++) {
            bench.put(k, 0, 0, 0, MAX);
            bench.run(k, 0, MAX, (k + 1L) * MAX);
        }
    }
}
