/**
 * The document once more, written with Java's own throw, catch and finally, as the rig that the class
 * is compared with. Here the machine itself may throw: that is what the document tells of.
 */
final class RealRig {
    private static class Grit extends RuntimeException {
        private static final long serialVersionUID = 1;
        final int number;

        Grit(int number, RuntimeException cause) {
            super("of the rig", cause);
            this.number = number;
        }
    }

    private static final class Shard extends Grit {
        private static final long serialVersionUID = 1;

        Shard(int number, RuntimeException cause) {
            super(number, cause);
        }
    }

    private int zero = 0;
    private final int[][] levels = new int[6][4];
    private final java.util.ArrayList<Integer> notes = new java.util.ArrayList<>();
    private int runs;
    private Throwable out;

    String set(int k, int takes, int then, int last, int value) {
        if (k < 0 || k > 5) {
            return Bench.NO_INDEX;
        }
        String before = Integer.toString(levels[k][3]);
        levels[k] = new int[] {takes, then, last, value};
        return before;
    }

    String run(int top, int bottom, int v) {
        if (top < 0 || top > 5) {
            return Bench.NO_INDEX;
        }
        runs++;
        notes.clear();
        out = null;
        try {
            return Long.toString(level(top, bottom, v));
        } catch (Shard e) {
            out = e;
            return Bench.SHARD;
        } catch (Grit e) {
            out = e;
            return Bench.GRIT;
        } catch (RuntimeException e) {
            out = e;
            return Bench.nameOf(e);
        }
    }

    String note(int i) {
        return i >= 0 && i < notes.size() && i < 64 ? notes.get(i).toString() : Bench.NO_INDEX;
    }

    String count(int what) {
        Throwable last = lastCause();
        int[] dues = {notes.size(), runs, kindOf(out), numberOf(out), causes(), kindOf(last),
            numberOf(last)};
        return what >= 0 && what <= 6 ? Integer.toString(dues[what]) : Bench.NO_REFERENCE;
    }

    private int causes() {
        int causes = 0;
        for (Throwable t = out; t != null && t.getCause() != null; t = t.getCause()) {
            causes++;
        }
        return causes;
    }

    private Throwable lastCause() {
        Throwable last = null;
        for (Throwable t = out; t != null; t = t.getCause()) {
            last = t;
        }
        return last == out ? null : last;
    }

    private static int kindOf(Throwable t) {
        if (t == null) {
            return 0;
        }
        if (t instanceof Shard) {
            return 2;
        }
        if (t instanceof Grit) {
            return 1;
        }
        if (t instanceof ArithmeticException) {
            return 3;
        }
        return t instanceof NullPointerException ? 4 : 5;
    }

    private static int numberOf(Throwable t) {
        return t instanceof Grit ? ((Grit) t).number : 0;
    }

    @SuppressWarnings("finally")
    private long level(int k, int bottom, int v) {
        int value = levels[k][3];
        notes.add(k);
        try {
            try {
                return down(k, bottom, v);
            } catch (RuntimeException e) {
                int[] bits = {0, 1, 2, 4, 8, 16};
                if ((levels[k][0] & bits[kindOf(e)]) == 0) {
                    throw e;
                }
                notes.add(100 * kindOf(e) + k);
                switch (levels[k][1]) {
                    case 0:
                        return value;
                    case 1:
                        throw e;
                    case 2:
                        throw new Grit(value, e);
                    case 3:
                        throw new Shard(value, e);
                    case 4:
                        return value / zero;
                    default:
                        return down(k, 0, value);
                }
            }
        } finally {
            notes.add(600 + k);
            if (levels[k][2] == 1) {
                return value;
            }
            if (levels[k][2] == 2) {
                throw new Grit(value, null);
            }
            if (levels[k][2] == 3) {
                notes.add(value / zero);
            }
        }
    }

    private long down(int k, int bottom, int v) {
        return k == 0 ? bottom(bottom, v) : level(k - 1, bottom, v) + levels[k][3];
    }

    private long bottom(int bottom, int v) {
        int[] noArray = null;
        RuntimeException nothing = null;
        switch (bottom) {
            case 1:
                throw new Grit(v, null);
            case 2:
                throw new Shard(v, null);
            case 3:
                return v / zero;
            case 4:
                return noArray.length;
            case 5:
                throw nothing;
            case 6:
                return new int[] {7, 7, 7}[v];
            case 7:
                return within(3, v);
            default:
                return v;
        }
    }

    private long within(int calls, int v) {
        if (calls == 0) {
            throw new Grit(v, null);
        }
        try {
            return within(calls - 1, v);
        } finally {
            notes.add(700 + v % 100);
        }
    }
}
