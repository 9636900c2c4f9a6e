/** Runs one term as the body of a policy's script; its REDEEMER is VARIABLE 2, its CONTEXT VARIABLE 1. */
final class Lab {
    // Two APPLYS, the REDEEMER and the CONTEXT, two LAMBDAS; these are two FUNCTIONS that are called.
    static final int STEPS_BEFORE = 6;
    static final int MEMORY_BEFORE = 4;

    private Lab() {
    }

    static Bench run(Term body, Data redeemer) {
        Bench bench = new Bench(1);
        bench.x.endowOwner(1, 100000);
        bench.x.endowOwner(1, 100000);
        Check.due("registerScript()", bench.register(Term.lams(2, body)), 0);
        Tx tx = new Tx().in(0).back(1).mint(1, 5, 7).redeem(1, redeemer).fee(1000).sign(1)
                .pay(Tx.owner(1), Tx.value(0, 0, 99000, 1, 5, 7), Data.i(0));
        int verdict = bench.submit(tx);
        Check.due("one run", bench.x.latestOf(2), 1);
        boolean isApplied = verdict == 0;
        Check.due("it runs", isApplied || verdict == 20, true);
        bench.dueLook("STEPS of all runs", 10, bench.x.latestOf(4));
        return bench;
    }

    /** The machine's answer, the STEPS and MEMORY of the body alone, and the kind of its VALUE. */
    static void due(String what, Term body, int answer, int steps, int memory, int kind) {
        due(what, body, Data.i(0), answer, steps, memory, kind);
    }

    static void due(String what, Term body, Data redeemer, int answer, int steps, int memory, int kind) {
        Bench bench = run(body, redeemer);
        Check.due(what + ": the machine's answer", bench.x.latestOf(3), answer);
        Check.due(what + ": STEPS", bench.x.latestOf(4), STEPS_BEFORE + steps);
        Check.due(what + ": MEMORY", bench.x.latestOf(5), MEMORY_BEFORE + memory);
        Check.due(what + ": the kind of its VALUE", bench.x.latestOf(6), kind);
    }

    static void dueAnswer(String what, Term body, int answer) {
        Bench bench = run(body, Data.i(0));
        Check.due(what + ": the machine's answer", bench.x.latestOf(3), answer);
        Check.due(what + ": its VALUE is told", bench.x.latestOf(6) >= 0, answer == 0);
    }

    static void dueInteger(String what, Term body, long want) {
        Check.due(what + " is " + want, run(Term.fn(7, body, Term.i(want)), Data.i(0)).x.latestOf(0), 0);
        Check.due(what + " is not another", run(Term.fn(7, body, Term.i(want ^ 1)), Data.i(0)).x.latestOf(0), 20);
    }

    static void dueTruth(String what, Term body, boolean want) {
        Bench bench = run(body, Data.i(0));
        Check.due(what, bench.x.latestOf(0), want ? 0 : 20);
        Check.due(what + ": a TRUTH", bench.x.latestOf(6), 2);
    }

    static void dueBytes(String what, Term body, Term want) {
        dueTruth(what, Term.fn(14, body, want), true);
        dueTruth(what + ", and not one more", Term.fn(14, body, Term.fn(10, Term.s(1), want)), false);
    }

    static void dueData(String what, Term body, Data want) {
        Check.due(what, run(Term.fn(17, body, Term.v(2)), want).x.latestOf(0), 0);
        Check.due(what + ", and not in a LIST", run(Term.fn(17, body, Term.v(2)), Data.l(want)).x.latestOf(0), 20);
    }
}
