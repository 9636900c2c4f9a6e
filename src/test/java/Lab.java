/** Runs one term as the body of a policy's script; its REDEEMER is VARIABLE 2, its CONTEXT VARIABLE 1. */
final class Lab {
    // Two APPLYS, the REDEEMER and the CONTEXT, two LAMBDAS; these are two FUNCTIONS that are called.
    static final int STEPS_BEFORE = 6;
    static final int MEMORY_BEFORE = 4;
    static final Term REDEEMER = Term.v(2);

    private Lab() {
    }

    static Bench run(Term body, Data redeemer) {
        return runScript(Term.lams(2, body), redeemer);
    }

    /** Runs a whole script, which gets its REDEEMER and its CONTEXT. */
    static Bench runScript(Term script, Data redeemer) {
        Bench bench = new Bench(1).endow(2, 1, 100000);
        Check.due("registerScript()", bench.register(script), 0);
        Tx tx = new Tx().in(0).back(1).mint(1, 5, 7).redeem(1, redeemer).fee(1000).sign(1)
                .pay(Tx.owner(1), Tx.value(0, 0, 99000, 1, 5, 7), Data.i(0));
        int verdict = bench.submit(tx);
        Check.due("one run", bench.x.latestOf(2), 1);
        boolean isApplied = verdict == 0;
        Check.due("it runs", isApplied || verdict == 20, true);
        bench.dueLook("STEPS of all runs", 10, bench.x.latestOf(4));
        return bench;
    }

    /** Runs a script of an OUTPUT, which gets its DATUM, too. */
    static Bench runInput(Term script, Data datum, Data redeemer) {
        Bench bench = new Bench(1).endow(2, 1, 100000);
        Check.due("registerScript()", bench.register(script), 0);
        bench.due("to the SCRIPT", new Tx().in(0).fee(1000).sign(1).payScript(0, 99000, datum), 0);
        bench.submit(new Tx().in(2, redeemer).back(1).fee(1000).sign(1).pay(1, 98000));
        Check.due("one run", bench.x.latestOf(2), 1);
        return bench;
    }

    static boolean accepts(Term body, Data redeemer) {
        return run(body, redeemer).x.latestOf(0) == 0;
    }

    /** The machine's answer, the STEPS and MEMORY of the body alone, and the kind of its VALUE. */
    static void due(String what, Term body, int answer, int steps, int memory, int kind) {
        due(what, body, Data.i(0), answer, steps, memory, kind);
    }

    static void due(String what, Term body, Data redeemer, int answer, int steps, int memory, int kind) {
        Bench bench = run(body, redeemer);
        Check.due(what + ": the machine's answer", bench.x.latestOf(3), answer);
        Check.due(what + ": STEPS", bench.x.latestOf(4), STEPS_BEFORE + steps);
        Check.due(what + ": MEMORY", bench.x.latestOf(5), MEMORY_BEFORE + memory);
        Check.due(what + ": the kind of its VALUE", bench.x.latestOf(6), kind);
    }

    static void dueAnswer(String what, Term body, int answer) {
        dueAnswer(what, body, Data.i(0), answer);
    }

    static void dueAnswer(String what, Term body, Data redeemer, int answer) {
        Bench bench = run(body, redeemer);
        Check.due(what + ": the machine's answer", bench.x.latestOf(3), answer);
        Check.due(what + ": its VALUE is told", bench.x.latestOf(6) >= 0, answer == 0);
    }

    /** What it comes to is compared with the REDEEMER, so that numbers of TERMS and of DATA are read. */
    static void dueInteger(String what, Term body, long want) {
        Term isSame = Term.fn(7, body, Term.fn(24, REDEEMER));
        Check.due(what + " is " + want, accepts(isSame, Data.i(want)), true);
        Check.due(what + " is not another", accepts(isSame, Data.i(want ^ 1)), false);
    }

    static void dueTruth(String what, Term body, boolean want) {
        Bench bench = run(body, Data.i(0));
        Check.due(what, bench.x.latestOf(0), want ? 0 : 20);
        Check.due(what + ": a TRUTH", bench.x.latestOf(6), 2);
    }

    static void dueBytes(String what, Term body, int... want) {
        Term isSame = Term.fn(14, body, Term.fn(25, REDEEMER));
        int[] more = java.util.Arrays.copyOf(want, want.length + 1);
        Check.due(what, accepts(isSame, Data.b(want)), true);
        if (more.length <= 64) {
            Check.due(what + ", and not one more", accepts(isSame, Data.b(more)), false);
        }
    }

    static void dueData(String what, Term body, Data want) {
        Term isSame = Term.fn(17, body, REDEEMER);
        Check.due(what, accepts(isSame, want), true);
        Check.due(what + ", and not in a LIST", accepts(isSame, Data.l(want)), false);
    }
}
