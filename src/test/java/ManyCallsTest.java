/** An object is used for at most 512 calls: until then every call answers as said. */
public final class ManyCallsTest {
    public static void main(String[] args) {
        countsEveryRun();
        runsItsDearestRig();
        setsAgainAndAgain();
        tellsNotesAgainAndAgain();
        refusesAgainAndAgain();
        doesAllInTurn();
        Bench.end();
    }

    private static void countsEveryRun() {
        Bench bench = new Bench();
        for (int run = 1; run < Bench.PROMISED_CALLS; run++) {
            bench.run(run % 6, 0, run, run);
        }
        bench.count(1, Integer.toString(Bench.PROMISED_CALLS - 1));
    }

    /** All LEVELS throw and go down twice, first to the BOTTOM that notes: no run makes more NOTES. */
    private static void runsItsDearestRig() {
        Bench bench = new Bench();
        for (int k = 0; k <= 5; k++) {
            bench.put(k, 31, 5, 2, k);
        }
        int runs = 0;
        while (bench.callsLeft() > 8) {
            bench.run(5, 7, 1, Bench.GRIT);
            runs++;
        }
        bench.count(0, "161");
        bench.count(1, Integer.toString(runs));
        bench.out(1, 5, 0, 0, 0);
        bench.note(63, "2");
    }

    private static void setsAgainAndAgain() {
        Bench bench = new Bench();
        for (int call = 0; call < Bench.PROMISED_CALLS; call++) {
            bench.set(call % 6, call, -call, call, 1000 + call,
                    Integer.toString(call < 6 ? 0 : 1000 + call - 6));
        }
    }

    private static void tellsNotesAgainAndAgain() {
        Bench bench = new Bench();
        bench.run(5, 2, 9, Bench.SHARD);
        while (bench.callsLeft() > 2) {
            bench.note(5, "0");
            bench.note(12, Bench.NO_INDEX);
        }
        bench.count(2, "2");
    }

    private static void refusesAgainAndAgain() {
        Bench bench = new Bench();
        bench.run(1, 2, 9, Bench.SHARD);
        while (bench.callsLeft() > 8) {
            bench.run(6, 1, 8, Bench.NO_INDEX);
            bench.set(-1, 31, 0, 1, 8, Bench.NO_INDEX);
            bench.note(4, Bench.NO_INDEX);
            bench.count(7, Bench.NO_REFERENCE);
        }
        bench.count(0, "4");
        bench.count(1, "1");
        bench.out(2, 9, 0, 0, 0);
    }

    private static void doesAllInTurn() {
        Bench bench = new Bench();
        int before = 0;
        for (int turn = 1; bench.callsLeft() >= 8; turn++) {
            bench.set(1, 1, turn % 2 == 0 ? 2 : 3, 0, turn, Integer.toString(before));
            before = turn;
            bench.run(1, 1, -turn, turn % 2 == 0 ? Bench.GRIT : Bench.SHARD);
            bench.note(3, "101");
            bench.count(1, Integer.toString(turn));
            bench.count(3, Integer.toString(turn));
            bench.count(4, "1");
            bench.count(6, Integer.toString(-turn));
            bench.note(5, Bench.NO_INDEX);
        }
    }
}
