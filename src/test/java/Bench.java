/**
 * One rig under test. Every answer is compared as a text, "5" or "throws.IllegalStateException", and
 * what is not due is printed.
 */
final class Bench {
    static final String NO_INDEX = "throws.ArrayIndexOutOfBoundsException";
    static final String NO_REFERENCE = "throws.NullPointerException";
    static final String DIVISION = "throws.ArithmeticException";
    static final String GRIT = "throws.IllegalStateException";
    static final String SHARD = "throws.UnsupportedOperationException";

    /** A BOTTOM from which each KIND comes, with a v below 0. */
    static final int[] BOTTOM_OF_KIND = {0, 1, 2, 3, 4, 6};
    /** What a run throws for each KIND that comes out of it. */
    static final String[] OUT_OF_RUN = {"", GRIT, SHARD, DIVISION, NO_REFERENCE, NO_INDEX};

    /** What an object answers later is free. */
    static final int PROMISED_CALLS = 512;

    private static int compared = 0;
    private static int wrong = 0;

    private final UnwindRig rig = new UnwindRig();
    private int calls = 0;

    static String setOf(UnwindRig rig, int k, int takes, int then, int last, int value) {
        try {
            return Integer.toString(rig.set(k, takes, then, last, value));
        } catch (RuntimeException e) {
            return thrownByRig(e);
        }
    }

    static String runOf(UnwindRig rig, int top, int bottom, int v) {
        try {
            return Long.toString(rig.run(top, bottom, v));
        } catch (RuntimeException e) {
            return thrownByRig(e);
        }
    }

    static String noteOf(UnwindRig rig, int i) {
        try {
            return Integer.toString(rig.note(i));
        } catch (RuntimeException e) {
            return thrownByRig(e);
        }
    }

    static String countOf(UnwindRig rig, int what) {
        try {
            return Integer.toString(rig.count(what));
        } catch (RuntimeException e) {
            return thrownByRig(e);
        }
    }

    static String nameOf(RuntimeException e) {
        return "throws." + e.getClass().getSimpleName();
    }

    /** The machine never may throw in the class; its texts, or its bare exceptions, tell that it did. */
    private static String thrownByRig(RuntimeException e) {
        return isOfMachine(e) ? "machine." + nameOf(e) : nameOf(e);
    }

    private static boolean isOfMachine(RuntimeException e) {
        String text = e.getMessage();
        if (text == null) {
            return e.getStackTrace().length == 0;
        }
        return text.startsWith("Index ") || text.startsWith("Cannot ") || text.equals("/ by zero");
    }

    static void due(String call, String got, String want) {
        compared++;
        if (!got.equals(want)) {
            wrong++;
            if (wrong <= 50) {
                System.out.println(call + " answered " + got + ", due is " + want);
            }
        }
    }

    /** Ends the test's process, with 1 if an answer was not due or none was looked at. */
    static void end() {
        System.out.println(compared + " answers compared, " + wrong + " not as due");
        if (wrong != 0 || compared == 0) {
            System.exit(1);
        }
    }

    private UnwindRig rigForACall() {
        calls++;
        if (calls > PROMISED_CALLS) {
            throw new IllegalStateException("this test asks one object more than it promises");
        }
        return rig;
    }

    int callsLeft() {
        return PROMISED_CALLS - calls;
    }

    void set(int k, int takes, int then, int last, int value, String want) {
        String call = "set(" + k + ", " + takes + ", " + then + ", " + last + ", " + value + ")";
        due(call, setOf(rigForACall(), k, takes, then, last, value), want);
    }

    /** A set whose answer is not what the test is about. */
    void put(int k, int takes, int then, int last, int value) {
        rigForACall().set(k, takes, then, last, value);
    }

    void run(int top, int bottom, int v, String want) {
        due("run(" + top + ", " + bottom + ", " + v + ")", runOf(rigForACall(), top, bottom, v), want);
    }

    void run(int top, int bottom, int v, long want) {
        run(top, bottom, v, Long.toString(want));
    }

    void note(int i, String want) {
        due("note(" + i + ")", noteOf(rigForACall(), i), want);
    }

    void count(int what, String want) {
        due("count(" + what + ")", countOf(rigForACall(), what), want);
    }

    /** The NOTES are these and no others. */
    void notes(int... want) {
        count(0, Integer.toString(want.length));
        for (int i = 0; i < want.length; i++) {
            note(i, Integer.toString(want[i]));
        }
        note(want.length, NO_INDEX);
    }

    /** What count 2 .. 6 tell of what was thrown out. */
    void out(int kind, int number, int causes, int lastKind, int lastNumber) {
        count(2, Integer.toString(kind));
        count(3, Integer.toString(number));
        count(4, Integer.toString(causes));
        count(5, Integer.toString(lastKind));
        count(6, Integer.toString(lastNumber));
    }
}
