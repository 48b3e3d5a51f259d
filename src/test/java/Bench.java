/**
 * One rig under test. Every answer is compared as a text, "5" or "throws.IllegalStateException", and
 * what is not due is printed.
 */
final class Bench {
    static final String NO_INDEX = "throws.ArrayIndexOutOfBoundsException";
    static final String NO_REFERENCE = "throws.NullPointerException";
    static final String DIVISION = "throws.ArithmeticException";
    static final String GRIT = "throws.IllegalStateException";
    static final String SHARD = "throws.UnsupportedOperationException";

    private static int compared = 0;
    private static int wrong = 0;

    final UnwindRig rig = new UnwindRig();

    static String setOf(UnwindRig rig, int k, int takes, int then, int last, int value) {
        try {
            return Integer.toString(rig.set(k, takes, then, last, value));
        } catch (RuntimeException e) {
            return thrownByRig(e);
        }
    }

    static String runOf(UnwindRig rig, int top, int bottom, int v) {
        try {
            return Long.toString(rig.run(top, bottom, v));
        } catch (RuntimeException e) {
            return thrownByRig(e);
        }
    }

    static String noteOf(UnwindRig rig, int i) {
        try {
            return Integer.toString(rig.note(i));
        } catch (RuntimeException e) {
            return thrownByRig(e);
        }
    }

    static String countOf(UnwindRig rig, int what) {
        try {
            return Integer.toString(rig.count(what));
        } catch (RuntimeException e) {
            return thrownByRig(e);
        }
    }

    static String nameOf(RuntimeException e) {
        return "throws." + e.getClass().getSimpleName();
    }

    /**
     * The class throws with written texts alone, so another text, or none, shows that the machine threw
     * in it, which it never may.
     */
    private static String thrownByRig(RuntimeException e) {
        String text = e.getMessage();
        boolean byMachine = text == null || text.startsWith("Index ") || text.startsWith("Cannot ")
                || text.equals("/ by zero");
        return byMachine ? "machine." + nameOf(e) : nameOf(e);
    }

    static void due(String call, String got, String want) {
        compared++;
        if (!got.equals(want)) {
            wrong++;
            if (wrong <= 50) {
                System.out.println(call + " answered " + got + ", due is " + want);
            }
        }
    }

    /** Ends the test's process, with 1 if an answer was not due or none was looked at. */
    static void end() {
        System.out.println(compared + " answers compared, " + wrong + " not as due");
        if (wrong != 0 || compared == 0) {
            System.exit(1);
        }
    }

    void set(int k, int takes, int then, int last, int value, String want) {
        String call = "set(" + k + ", " + takes + ", " + then + ", " + last + ", " + value + ")";
        due(call, setOf(rig, k, takes, then, last, value), want);
    }

    /** A set whose answer is not what the test is about. */
    void put(int k, int takes, int then, int last, int value) {
        rig.set(k, takes, then, last, value);
    }

    void run(int top, int bottom, int v, String want) {
        due("run(" + top + ", " + bottom + ", " + v + ")", runOf(rig, top, bottom, v), want);
    }

    void run(int top, int bottom, int v, long want) {
        run(top, bottom, v, Long.toString(want));
    }

    void note(int i, String want) {
        due("note(" + i + ")", noteOf(rig, i), want);
    }

    void count(int what, String want) {
        due("count(" + what + ")", countOf(rig, what), want);
    }

    /** The NOTES are these and no others. */
    void notes(int... want) {
        count(0, Integer.toString(want.length));
        for (int i = 0; i < want.length; i++) {
            note(i, Integer.toString(want[i]));
        }
        note(want.length, NO_INDEX);
    }

    /** What count 2 .. 6 tell of what was thrown out. */
    void out(int kind, int number, int causes, int lastKind, int lastNumber) {
        count(2, Integer.toString(kind));
        count(3, Integer.toString(number));
        count(4, Integer.toString(causes));
        count(5, Integer.toString(lastKind));
        count(6, Integer.toString(lastNumber));
    }
}
