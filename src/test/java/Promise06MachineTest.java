/** Promise 6, PHASE TWO: what it is to EVALUATE, and what that costs. */
public final class Promise06MachineTest {
    public static void main(String[] args) {
        constants();
        functions();
        delayed();
        wrongKinds();
        variables();
        builtinsWithFewer();
        sizes();
        accepting();
        memoryEnds();
        tooManyWait();
        stepsEnd();
        resultTooLarge();
        bodiesDoNotWait();
        numbersOfArguments();
        Check.end();
    }

    private static void constants() {
        Lab.due("INTEGER", Term.i(5), 0, 1, 0, 0);
        Lab.due("BYTES", Term.ss(64), 0, 1, 0, 1);
        Lab.due("TRUTH", Term.t(1), 0, 1, 0, 2);
        Lab.due("UNIT", Term.unit(), 0, 1, 0, 3);
        Lab.due("EMPTY", Term.empty(), 0, 1, 0, 4);
        Lab.due("LAMBDA", Term.lam(Term.error()), 0, 1, 1, 5);
        Lab.due("DELAY", Term.delay(Term.error()), 0, 1, 1, 6);
        Lab.due("BUILTIN", Term.fn(0), 0, 1, 1, 7);
        Lab.due("ERROR", Term.error(), 1, 1, 0, -1);
        Lab.due("REDEEMER", Term.v(2), 0, 1, 0, 4);
    }

    private static void functions() {
        // APPLY, LAMBDA, its argument, its body.
        Lab.due("a call", Term.app(Term.lam(Term.v(1)), Term.t(1)), 0, 4, 2, 2);
        Lab.due("two calls", Term.app(Term.lams(2, Term.v(2)), Term.t(1), Term.unit()), 0, 7, 4, 2);
        Lab.due("the argument fails first", Term.app(Term.unit(), Term.error()), 1, 3, 0, -1);
        Lab.due("the function fails first", Term.app(Term.error(), Term.fn(0)), 1, 2, 0, -1);
        Lab.due("an argument that is not used", Term.app(Term.lam(Term.t(1)), Term.error()), 1, 3, 1, -1);
    }

    private static void delayed() {
        Lab.due("FORCE of DELAY", Term.force(Term.delay(Term.t(1))), 0, 3, 1, 2);
        Lab.due("FORCE of DELAY of ERROR", Term.force(Term.delay(Term.error())), 1, 3, 1, -1);
        Lab.due("FORCE twice", Term.force(Term.force(Term.delay(Term.delay(Term.unit())))), 0, 5, 2, 3);
        Lab.due("a body keeps its VARIABLES",
                Term.app(Term.lam(Term.force(Term.v(1))), Term.delay(Term.v(2))), 0, 6, 3, 4);
    }

    private static void wrongKinds() {
        Term[] values = {Term.i(5), Term.s(1), Term.t(1), Term.unit(), Term.empty(), Term.delay(Term.unit())};
        for (Term value : values) {
            int made = value.kind() == 3 ? 1 : 0;
            Lab.due("a call of kind " + value.kind(), Term.app(value, Term.unit()), 2, 3, made, -1);
            if (made == 0) {
                Lab.due("FORCE of kind " + value.kind(), Term.force(value), 2, 2, 0, -1);
            }
        }
        Lab.due("FORCE of a FUNCTION", Term.force(Term.lam(Term.unit())), 2, 2, 1, -1);
        Lab.due("FORCE of a BUILTIN", Term.force(Term.fn(0)), 2, 2, 1, -1);
    }

    private static void variables() {
        // Three LAMBDAS give 1, 2, 3 to VARIABLES 3, 2, 1.
        for (int i = 1; i <= 3; i++) {
            Lab.dueInteger("VARIABLE " + i, Term.app(Term.lams(3, Term.v(i)), Term.i(1), Term.i(2), Term.i(3)), 4 - i);
        }
        Term inner = Term.app(Term.lam(Term.app(Term.lam(Term.fn(1, Term.v(1), Term.v(2))), Term.i(10))), Term.i(4));
        Lab.dueInteger("the innermost LAMBDA is the first", inner, 6);
        // A FUNCTION keeps what its VARIABLES stood for where it was made.
        Term kept = Term.app(Term.lam(Term.app(Term.lam(Term.app(Term.v(1), Term.i(1))), Term.lam(Term.v(2)))), Term.i(9));
        Lab.dueInteger("kept VARIABLES", kept, 9);
    }

    private static void builtinsWithFewer() {
        Lab.due("of three VALUES one", Term.fn(13, Term.i(1)), 0, 3, 2, 7);
        Lab.due("of three VALUES two", Term.fn(13, Term.i(1), Term.i(2)), 0, 5, 3, 7);
        // Kinds are looked at when it is DONE.
        Lab.due("a wrong one at first", Term.fn(0, Term.unit()), 0, 3, 2, 7);
        Lab.due("a wrong one", Term.fn(0, Term.unit(), Term.i(1)), 2, 5 + 3, 2, -1);
        Lab.due("one too many", Term.fn(0, Term.i(1), Term.i(1), Term.i(1)), 2, 1 + 5 + 3 + 1, 3, -1);
        Lab.due("no such result", Term.fn(3, Term.i(1), Term.i(0)), 3, 5 + 3, 2, -1);
        // The same BUILTIN with one VALUE can be used twice.
        Term twice = Term.app(Term.lam(Term.fn(0, Term.app(Term.v(1), Term.i(1)), Term.app(Term.v(1), Term.i(2)))),
                Term.fn(0, Term.i(10)));
        Lab.dueInteger("with one VALUE more, twice", twice, 23);
    }

    private static void sizes() {
        // APPLY, APPLY, BUILTIN and two constants; then their SIZES and 1; MEMORY: BUILTIN, one VALUE more, the result.
        Lab.due("equal INTEGERS", Term.fn(7, Term.i(5), Term.i(5)), 0, 5 + 3, 2 + 1, 2);
        Lab.due("BYTES 7 and 8", Term.fn(10, Term.ss(7), Term.ss(8)), 0, 5 + 1 + 2 + 1, 2 + 2, 1);
        Lab.due("BYTES 64 and 0", Term.fn(10, Term.ss(64), Term.ss(0)), 0, 5 + 9 + 1 + 1, 2 + 9, 1);
        Lab.due("BYTES 63", Term.fn(11, Term.ss(63)), 0, 3 + 8 + 1, 1 + 1, 0);
        // A LIST of two BYTES of 4: 3 NODES and 8 bytes together.
        Lab.due("DATA", Term.fn(17, Term.v(2), Term.v(2)), Data.l(Data.bs(4), Data.bs(4)), 0, 5 + 4 + 4 + 1, 3, 2);
        Lab.due("DATA with 7 bytes", Term.fn(29, Term.v(2)), Data.l(Data.bs(4), Data.bs(3)), 0, 3 + 3 + 1, 2, 2);
        Lab.due("the others", Term.fn(27, Term.v(2)), Data.l(Data.i(1), Data.bs(16), Data.l()), 0,
                3 + 4 + 2 + 1, 1 + 3 + 2, 4);
        Lab.due("the first", Term.fn(26, Term.v(2)), Data.l(Data.wide(10), Data.bs(16)), 0, 3 + 12 + 2 + 1, 1 + 10, 4);
        Lab.due("a choice", Term.fn(16, Term.t(0), Term.unit(), Term.ss(16)), 0, 7 + 1 + 1 + 3 + 1, 3 + 3, 1);
        Lab.due("a choice of FUNCTIONS", Term.fn(16, Term.t(1), Term.fn(0), Term.lam(Term.unit())), 0,
                7 + 3 + 1, 3 + 2 + 1, 7);
        Lab.due("EMPTY", Term.fn(29, Term.empty()), 0, 3 + 1 + 1, 2, 2);
        Lab.due("to DATA", Term.fn(23, Term.ss(24)), 0, 3 + 4 + 1, 1 + 4, 4);
    }

    private static void accepting() {
        Term[] others = {Term.t(0), Term.i(1), Term.unit(), Term.empty(), Term.s(1), Term.lam(Term.t(1)),
            Term.delay(Term.t(1)), Term.fn(7), Term.fn(22, Term.i(1)), Term.error()};
        Check.due("TRUTH 1", Lab.run(Term.t(1), Data.i(0)).x.latestOf(0), 0);
        for (Term other : others) {
            Check.due("kind " + other.kind(), Lab.run(other, Data.i(0)).x.latestOf(0), 20);
        }
    }

    private static Term loop(Term body) {
        return Term.app(Term.lam(body), Term.lam(body));
    }

    private static void memoryEnds() {
        // Three STEPS for APPLY and the LAMBDAS, which cost 2; then 1 and three STEPS for each call.
        int calls = 3000 - Lab.MEMORY_BEFORE - 2;
        Lab.due("calls without end", loop(Term.app(Term.v(1), Term.v(1))), 5, 3 + 3 * calls, 2 + calls, -1);
    }

    private static void tooManyWait() {
        // An APPLY waits for its argument in each call: APPLY, LAMBDA, APPLY, VARIABLE, VARIABLE.
        Term body = Term.app(Term.lam(Term.unit()), Term.app(Term.v(1), Term.v(1)));
        Lab.due("APPLYS wait for arguments", loop(body), 6, 3 + 399 * 5 + 3, 2 + 1 + 399 * 2 + 1, -1);
        // For its function: APPLY, APPLY, VARIABLE, VARIABLE.
        body = Term.app(Term.app(Term.v(1), Term.v(1)), Term.unit());
        Lab.due("APPLYS wait for functions", loop(body), 6, 3 + 399 * 4 + 2, 2 + 1 + 399, -1);
        // FORCE, APPLY, VARIABLE, VARIABLE.
        body = Term.force(Term.app(Term.v(1), Term.v(1)));
        Lab.due("FORCES wait", loop(body), 6, 3 + 399 * 4 + 2, 2 + 1 + 399, -1);
    }

    /** Lets that cost 2 * size + 8 STEPS each, with BYTES and INTEGERS as REDEEMER. */
    private static Term burning(int times, int pads3, int pads2, int bound, Term rest) {
        if (times > 0) {
            Term redeemer = Term.v(bound);
            return Term.app(Term.lam(burning(times - 1, pads3, pads2, bound + 1, rest)), Term.fn(17, redeemer, redeemer));
        }
        if (pads3 > 0) {
            return Term.app(Term.lam(burning(0, pads3 - 1, pads2, bound + 1, rest)), Term.unit());
        }
        return pads2 > 0 ? Term.force(Term.delay(burning(0, 0, pads2 - 1, bound, rest))) : rest;
    }

    /** A LIST with 49 BYTES of SIZE 9, and INTEGERS. */
    private static Data redeemerOfSize(int size) {
        Data[] parts = new Data[49 + size - 442];
        for (int k = 0; k < parts.length; k++) {
            parts[k] = k < 49 ? Data.bs(64) : Data.i(0);
        }
        Check.due("the SIZE of the REDEEMER", Data.l(parts).size(), size);
        return Data.l(parts);
    }

    private static void stepsEnd() {
        int most = 20000 - Lab.STEPS_BEFORE;
        Term waits = loop(Term.app(Term.lam(Term.unit()), Term.app(Term.v(1), Term.v(1))));
        // It has 3 + 399 * 5 + 3 STEPS, the last one being that of the APPLY that is one too many; 802 of MEMORY.
        Data redeemer = redeemerOfSize(469);
        Check.due("STEPS in all", 19 * 946 + 5 * 3 + 2 * 2 + 2001, most);
        Lab.due("the last STEP", burning(19, 5, 2, 2, waits), redeemer, 6, most, 19 * 5 + 5 * 2 + 2 + 802, -1);
        Lab.due("no STEP is left", burning(19, 6, 1, 2, waits), redeemer, 4, most, 19 * 5 + 6 * 2 + 1 + 802, -1);
        // What can't be paid is not counted: 469 and 1 STEPS.
        Lab.due("a BUILTIN that costs too much", burning(21, 0, 0, 2, Term.fn(18, Term.v(23))), redeemer,
                4, 21 * 946 + 3, 21 * 5 + 1, -1);
        redeemer = redeemerOfSize(450);
        Check.due("STEPS in all", 22 * 908 + 5 * 3 + 2 + 1, most);
        Lab.due("all STEPS", burning(22, 5, 1, 2, Term.t(1)), redeemer, 0, most, 22 * 5 + 5 * 2 + 1, 2);
        Lab.due("one more", burning(22, 6, 0, 2, Term.t(1)), redeemer, 4, most, 22 * 5 + 6 * 2, -1);
    }

    private static Term firsts(int times, int bound) {
        return times == 0 ? Term.t(1)
                : Term.app(Term.lam(firsts(times - 1, bound + 1)), Term.fn(26, Term.v(bound)));
    }

    private static void resultTooLarge() {
        // A let costs 157 STEPS and 153 of MEMORY: LAMBDA, BUILTIN, the result, and the call.
        Data redeemer = Data.l(Data.wide(150));
        Lab.due("19 results", firsts(19, 2), redeemer, 0, 19 * 157 + 1, 19 * 153, 2);
        Lab.due("20 results", firsts(20, 2), redeemer, 5, 20 * 157, 19 * 153 + 2, -1);
    }

    private static void bodiesDoNotWait() {
        // Calls at the end of a body never wait: 2994 of them end for want of MEMORY alone.
        Lab.dueAnswer("calls at the end", loop(Term.app(Term.v(1), Term.v(1))), 5);
        Lab.dueAnswer("FORCES at the end", loop(Term.force(Term.delay(Term.app(Term.v(1), Term.v(1))))), 5);
    }

    private static void numbersOfArguments() {
        // An OUTPUT's SCRIPT gets its DATUM, too; three APPLYS: (DATUM, REDEEMER, CONTEXT) are VARIABLES 3, 2, 1.
        Bench bench = new Bench(1);
        bench.x.endowOwner(1, 10000);
        bench.x.endowOwner(1, 10000);
        Term isFive = Term.fn(17, Term.v(3), Term.make(Data.i(5)));
        Term isSix = Term.fn(17, Term.v(2), Term.make(Data.i(6)));
        bench.register(Term.lams(3, Term.fn(16, isFive, isSix, Term.t(0))));
        Check.due("to the SCRIPT", bench.submit(new Tx().in(0).fee(100).sign(1).payScript(0, 5000, Data.i(5))
                .payScript(0, 4900, Data.i(4))), 0);
        Check.due("another DATUM", bench.submit(new Tx().in(3, Data.i(6)).back(1).fee(100).sign(1).pay(1, 4800)), 20);
        bench.dueLatest("another DATUM", 20, -1, 1, 0);
        bench = new Bench(1);
        bench.x.endowOwner(1, 10000);
        bench.x.endowOwner(1, 10000);
        bench.register(Term.lams(3, Term.fn(16, isFive, isSix, Term.t(0))));
        bench.submit(new Tx().in(0).fee(100).sign(1).payScript(0, 9900, Data.i(5)));
        Check.due("both", bench.submit(new Tx().in(2, Data.i(6)).back(1).fee(100).sign(1).pay(1, 9800)), 0);
        bench = new Bench(1);
        bench.x.endowOwner(1, 10000);
        bench.x.endowOwner(1, 10000);
        bench.register(Term.lams(3, Term.t(1)));
        Tx tx = new Tx().in(0).back(1).mint(1, 5, 7).redeem(1, Data.i(0)).fee(1000).sign(1)
                .pay(Tx.owner(1), Tx.value(0, 0, 9000, 1, 5, 7), Data.i(0));
        Check.due("three LAMBDAS for a POLICY", bench.submit(tx), 20);
        bench.dueLatest("three LAMBDAS for a POLICY", 20, -1, 1, 0, 7, 5, 5);
    }
}
