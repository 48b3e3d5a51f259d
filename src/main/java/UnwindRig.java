/**
 * A rig of six handlers in one another. What is thrown at its bottom goes up level by level and is
 * caught or not, thrown on, wrapped, made anew or answered; each level does its last thing whatever
 * came.
 *
 * <p>Nothing is really thrown inside: what is on its way up lies in {@link Thrown}, so the long that
 * a function hands back means something only while nothing lies there. Only {@link #run} makes a
 * Java exception of it, at the very end.
 */
public final class UnwindRig {
    private static final int LEVELS = 6;
    private static final int KEPT_NOTES = 64;

    private static final int NO_KIND = 0;
    private static final int GRIT = 1;
    private static final int SHARD = 2;
    private static final int ARITHMETIC = 3;
    private static final int NULL_POINTER = 4;
    private static final int ARRAY_INDEX = 5;

    private static final int BOTTOM_ANSWER = 0;
    private static final int BOTTOM_GRIT = 1;
    private static final int BOTTOM_SHARD = 2;
    private static final int BOTTOM_DIVIDE = 3;
    private static final int BOTTOM_NO_ARRAY = 4;
    private static final int BOTTOM_THROW_NOTHING = 5;
    private static final int BOTTOM_LOOK_UP = 6;
    private static final int BOTTOM_DEEP_GRIT = 7;

    private static final int THEN_ANSWER = 0;
    private static final int THEN_THROW_ON = 1;
    private static final int THEN_GRIT = 2;
    private static final int THEN_SHARD = 3;
    private static final int THEN_DIVIDE = 4;

    private static final int LAST_ANSWER = 1;
    private static final int LAST_GRIT = 2;
    private static final int LAST_DIVIDE = 3;

    private static final int CAUGHT_NOTE = 100;
    private static final int LAST_NOTE = 600;
    private static final int DEEP_NOTE = 700;
    private static final int DEEP_CALLS = 3;

    private static final int SEVENS = 3;
    private static final long SEVEN = 7;

    /** Handed back while something is thrown; nobody reads it. */
    private static final long NO_ANSWER = 0;

    private final Level[] levels = new Level[LEVELS];
    private final Notes notes = new Notes();
    private final Thrown thrown = new Thrown();
    private int runs;

    /** A rig whose LEVELS hold 0 everywhere, before its first RUN. */
    public UnwindRig() {
        for (int k = 0; k < LEVELS; k++) {
            levels[k] = new Level();
        }
    }

    /** Gives LEVEL k these four; answers its VALUE before. */
    public int set(int k, int takes, int then, int last, int value)
            throws java.lang.ArrayIndexOutOfBoundsException {
        if (!isLevel(k)) {
            throw new ArrayIndexOutOfBoundsException("no such level");
        }
        Level level = levels[k];
        int before = level.value;
        level.takes = takes;
        level.then = then;
        level.last = last;
        level.value = value;
        return before;
    }

    /** Lets LEVEL top do what it does, with that BOTTOM of v under LEVEL 0. */
    public long run(int top, int bottom, int v)
            throws ArithmeticException, IllegalStateException, UnsupportedOperationException,
                    java.lang.NullPointerException, java.lang.ArrayIndexOutOfBoundsException {
        if (!isLevel(top)) {
            throw new ArrayIndexOutOfBoundsException("no such level");
        }
        runs++;
        notes.beginAnew();
        thrown.drop();
        long answer = doLevel(top, bottom, v);
        throwOut(thrown.kind());
        return answer;
    }

    /** NOTE i of the latest RUN. */
    public int note(int i) throws java.lang.ArrayIndexOutOfBoundsException {
        if (i < 0 || i >= notes.kept()) {
            throw new ArrayIndexOutOfBoundsException("no such note was kept");
        }
        return notes.row[i];
    }

    /** What the document's table of count tells for this what. */
    public int count(int what) throws java.lang.NullPointerException {
        switch (what) {
            case 0:
                return notes.made;
            case 1:
                return runs;
            case 2:
                return thrown.kind();
            case 3:
                return thrown.number();
            case 4:
                return thrown.causes();
            case 5:
                return thrown.lastCauseKind();
            case 6:
                return thrown.lastCauseNumber();
            default:
                throw new NullPointerException("no such count");
        }
    }

    private static boolean isLevel(int k) {
        return k >= 0 && k < LEVELS;
    }

    /** k falls by one with each LEVEL further down, so the calls end at the BOTTOM. */
    private long doLevel(int k, int bottom, int v) {
        notes.add(k);
        long answer = goDown(k, bottom, v);
        if (levels[k].takesKind(thrown.kind())) {
            answer = doThen(k);
        }
        return doLast(k, answer);
    }

    private long goDown(int k, int bottom, int v) {
        if (k <= 0) {
            return reachBottom(bottom, v);
        }
        return doLevel(k - 1, bottom, v) + levels[k].value;
    }

    private long doThen(int k) {
        int value = levels[k].value;
        notes.add(CAUGHT_NOTE * thrown.kind() + k);
        switch (levels[k].then) {
            case THEN_ANSWER:
                thrown.drop();
                return value;
            case THEN_THROW_ON:
                return NO_ANSWER;
            case THEN_GRIT:
                thrown.wrap(GRIT, value);
                return NO_ANSWER;
            case THEN_SHARD:
                thrown.wrap(SHARD, value);
                return NO_ANSWER;
            case THEN_DIVIDE:
                return throwNew(ARITHMETIC, 0);
            default:
                thrown.drop();
                return goDown(k, BOTTOM_ANSWER, value);
        }
    }

    private long doLast(int k, long answer) {
        int value = levels[k].value;
        notes.add(LAST_NOTE + k);
        switch (levels[k].last) {
            case LAST_ANSWER:
                thrown.drop();
                return value;
            case LAST_GRIT:
                return throwNew(GRIT, value);
            case LAST_DIVIDE:
                // The division fails before there is anything to note.
                return throwNew(ARITHMETIC, 0);
            default:
                return answer;
        }
    }

    private long reachBottom(int bottom, int v) {
        switch (bottom) {
            case BOTTOM_GRIT:
                return throwNew(GRIT, v);
            case BOTTOM_SHARD:
                return throwNew(SHARD, v);
            case BOTTOM_DIVIDE:
                return throwNew(ARITHMETIC, 0);
            case BOTTOM_NO_ARRAY:
            case BOTTOM_THROW_NOTHING:
                return throwNew(NULL_POINTER, 0);
            case BOTTOM_LOOK_UP:
                return v >= 0 && v < SEVENS ? SEVEN : throwNew(ARRAY_INDEX, 0);
            case BOTTOM_DEEP_GRIT:
                return throwFromWithin(v);
            default:
                return v;
        }
    }

    private long throwFromWithin(int v) {
        for (int call = 0; call < DEEP_CALLS; call++) {
            notes.add(DEEP_NOTE + v % 100);
        }
        return throwNew(GRIT, v);
    }

    private long throwNew(int kind, int number) {
        thrown.drop();
        thrown.wrap(kind, number);
        return NO_ANSWER;
    }

    private static void throwOut(int kind) {
        switch (kind) {
            case GRIT:
                throw new IllegalStateException("a GRIT came out");
            case SHARD:
                throw new UnsupportedOperationException("a SHARD came out");
            case ARITHMETIC:
                throw new ArithmeticException("a division by 0 came out");
            case NULL_POINTER:
                throw new NullPointerException("a use of nothing came out");
            case ARRAY_INDEX:
                throw new ArrayIndexOutOfBoundsException("an index beyond its array came out");
            default:
                return;
        }
    }

    /** One handler of the rig, as set. */
    private static final class Level {
        private int takes;
        private int then;
        private int last;
        private int value;

        boolean takesKind(int kind) {
            return kind != NO_KIND && (takes & (1 << (kind - 1))) != 0;
        }
    }

    /** The NOTES of the latest RUN: the first ones kept, all counted. */
    private static final class Notes {
        private final int[] row = new int[KEPT_NOTES];
        private int made;

        void beginAnew() {
            made = 0;
        }

        void add(int text) {
            if (made < row.length) {
                row[made] = text;
            }
            made++;
        }

        int kept() {
            return Math.min(made, row.length);
        }
    }

    /**
     * What is on its way up, on top of its CAUSES, the last of them at 0; empty while there is an
     * answer. There is never more than one on its way, so one pair of rows does for all RUNS.
     */
    private static final class Thrown {
        // What is thrown new, and at most one wrapping by each LEVEL on its way.
        private static final int MOST = 1 + LEVELS;

        private final int[] kinds = new int[MOST];
        private final int[] numbers = new int[MOST];
        private int height;

        void drop() {
            height = 0;
        }

        /** Puts another on top, whose CAUSE is what was there, if there was anything. */
        void wrap(int kind, int number) {
            if (height < MOST) {
                kinds[height] = kind;
                numbers[height] = number;
                height++;
            }
        }

        int kind() {
            return height > 0 ? kinds[height - 1] : NO_KIND;
        }

        int number() {
            return height > 0 ? numbers[height - 1] : 0;
        }

        int causes() {
            return height > 0 ? height - 1 : 0;
        }

        int lastCauseKind() {
            return causes() > 0 ? kinds[0] : NO_KIND;
        }

        int lastCauseNumber() {
            return causes() > 0 ? numbers[0] : 0;
        }
    }
}
