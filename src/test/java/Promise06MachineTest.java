import java.util.function.IntFunction;

/** Promise 6, PHASE TWO: what it is to EVALUATE, and what that costs. */
public final class Promise06MachineTest {
    private static final IntFunction<Term> UNIT = bound -> Term.unit();

    public static void main(String[] args) {
        Edge.of("A VALUE of a term has a kind: 0 INTEGER, 1 BYTES, 2 TRUTH, 3 UNIT, 4 DATA (EMPTY is one)",
                Promise06MachineTest::kinds);
        Edge.of("(a LAMBDA whose VARIABLES but its own one stand for VALUES)", Promise06MachineTest::variables);
        Edge.of("7 BUILTIN, with the VALUES it has been applied to, fewer than it takes",
                Promise06MachineTest::builtinsWithFewer);
        Edge.of("The SIZE of a VALUE is 1; of BYTES 1 and an eighth of how many they are, rounded down",
                Promise06MachineTest::sizes);
        Edge.of("of DATA how many NODES it has and an eighth of how many bytes those of its NODES that are BYTES have"
                + " together, rounded down", Promise06MachineTest::sizesOfData);
        Edge.of("To EVALUATE a NODE costs a STEP, first of all.", Promise06MachineTest::firstOfAllAStep);
        Edge.of("ERROR fails (1).", Promise06MachineTest::error);
        Edge.of("LAMBDA, DELAY, BUILTIN: a FUNCTION, DELAYED, BUILTIN; this costs 1 of MEMORY.",
                Promise06MachineTest::made);
        Edge.of("the VALUE has to be DELAYED, else it fails (2); its body is EVALUATED.", Promise06MachineTest::delayed);
        Edge.of("APPLY: the function, then the argument is EVALUATED; the first VALUE has to be a FUNCTION or BUILTIN, else"
                + " it fails (2), and is CALLED with the second one.", Promise06MachineTest::functions);
        Edge.of("To CALL a FUNCTION costs 1 of MEMORY", Promise06MachineTest::calls);
        Edge.of("To CALL a BUILTIN that takes more than one more VALUE costs 1 of MEMORY",
                Promise06MachineTest::oneValueMore);
        Edge.of("it costs as many STEPS as the SIZES of all its VALUES together, and 1", Promise06MachineTest::done);
        Edge.of("then it fails (2) if one of these is not of the kind that it takes, (3) if there is no such result, and"
                + " costs the SIZE of its result in MEMORY", Promise06MachineTest::orderWhenDone);
        Edge.of("WAITING are APPLYS whose function, and those whose argument is being EVALUATED, and FORCES whose term is",
                Promise06MachineTest::mostWaiting);
        Edge.of("it fails (6) if it would be one of more than 400 WAITING (the STEP is counted; without one left it fails"
                + " (4))", Promise06MachineTest::tooManyWait);
        Edge.of("not what has come to a body", Promise06MachineTest::bodiesDoNotWait);
        Edge.of("Whenever STEPS would be more than there are to be had, it fails (4)", Promise06MachineTest::stepsEnd);
        Edge.of("and (5) for MEMORY: these are not counted then", Promise06MachineTest::memoryEnds);
        Edge.of("It is EVALUATED (DATA being constants of one NODE) each time with 20000 STEPS and 3000 of MEMORY.",
                Promise06MachineTest::eachTime);
        Edge.of("APPLY of APPLY of APPLY of the SCRIPT's TERM and the DATUM of the OUTPUT and the REDEEMER and the CONTEXT",
                Promise06MachineTest::threeArguments);
        Edge.of("for a POLICY without the DATUM (two APPLYS)", Promise06MachineTest::twoArguments);
        Edge.of("It accepts if that does not fail and comes to the TRUTH 1.", Promise06MachineTest::accepting);
        Edge.of("It accepts if that does not fail", Promise06MachineTest::nothingIsKept);
        Check.end();
    }

    private static void kinds() {
        Lab.due("INTEGER", Term.i(5), 0, 1, 0, 0);
        Lab.due("BYTES", Term.ss(64), 0, 1, 0, 1);
        Lab.due("BYTES none", Term.s(), 0, 1, 0, 1);
        Lab.due("TRUTH 0", Term.t(0), 0, 1, 0, 2);
        Lab.due("TRUTH 1", Term.t(1), 0, 1, 0, 2);
        Lab.due("UNIT", Term.unit(), 0, 1, 0, 3);
        Lab.due("EMPTY", Term.empty(), 0, 1, 0, 4);
        Lab.due("REDEEMER", Term.v(2), 0, 1, 0, 4);
        Lab.due("CONTEXT", Term.v(1), 0, 1, 0, 4);
        Lab.due("FUNCTION", Term.lam(Term.error()), 0, 1, 1, 5);
        Lab.due("DELAYED", Term.delay(Term.error()), 0, 1, 1, 6);
        Lab.due("BUILTIN", Term.fn(0), 0, 1, 1, 7);
    }

    private static void variables() {
        // Three LAMBDAS give 1, 2, 3 to VARIABLES 3, 2, 1.
        for (int i = 1; i <= 3; i++) {
            Lab.dueInteger("VARIABLE " + i, Term.app(Term.lams(3, Term.v(i)), Term.i(1), Term.i(2), Term.i(3)), 4 - i);
        }
        Term inner = Term.app(Term.lam(Term.app(Term.lam(Term.fn(1, Term.v(1), Term.v(2))), Term.i(10))), Term.i(4));
        Lab.dueInteger("the innermost LAMBDA is the first", inner, 6);
        // A FUNCTION keeps what its VARIABLES stood for where it was made.
        Term kept = Term.app(Term.lam(Term.app(Term.lam(Term.app(Term.v(1), Term.i(1))), Term.lam(Term.v(2)))), Term.i(9));
        Lab.dueInteger("kept VARIABLES", kept, 9);
        Lab.due("a body keeps its VARIABLES",
                Term.app(Term.lam(Term.force(Term.v(1))), Term.delay(Term.v(2))), 0, 6, 3, 4);
        // The first of 24 lets is found behind all others.
        Term let = Term.v(24);
        for (int k = 0; k < 24; k++) {
            let = Term.app(Term.lam(let), Term.t(k == 23 ? 1 : 0));
        }
        Lab.dueTruth("VARIABLE 24", let, true);
    }

    private static void builtinsWithFewer() {
        Lab.due("of two VALUES one", Term.fn(0, Term.i(1)), 0, 3, 2, 7);
        Lab.due("of three VALUES none", Term.fn(13), 0, 1, 1, 7);
        Lab.due("of three VALUES one", Term.fn(13, Term.i(1)), 0, 3, 2, 7);
        Lab.due("of three VALUES two", Term.fn(13, Term.i(1), Term.i(2)), 0, 5, 3, 7);
        Lab.due("of three VALUES three", Term.fn(13, Term.i(1), Term.i(2), Term.s(1)), 0, 7 + 3 + 1, 3 + 1, 1);
        Lab.due("of one VALUE one", Term.fn(22, Term.i(1)), 0, 3 + 1 + 1, 1 + 1, 4);
        // The same BUILTIN with one VALUE can be used twice.
        Term twice = Term.app(Term.lam(Term.fn(0, Term.app(Term.v(1), Term.i(1)), Term.app(Term.v(1), Term.i(2)))),
                Term.fn(0, Term.i(10)));
        Lab.dueInteger("with one VALUE more, twice", twice, 23);
        int[] takes = {2, 2, 2, 2, 2, 2, 2, 2, 2, 2, 2, 1, 2, 3, 2, 2, 3, 2, 1, 1, 1, 2, 1, 1, 1, 1, 1, 1, 2, 1, 1, 1};
        for (int builtin = 0; builtin < 32; builtin++) {
            // Kinds are looked at when it is DONE, and not before.
            Term[] fewer = new Term[takes[builtin] - 1];
            java.util.Arrays.fill(fewer, Term.delay(Term.unit()));
            Lab.due("BUILTIN " + builtin + " with one VALUE less", Term.fn(builtin, fewer), 0, 1 + 2 * fewer.length,
                    1 + 2 * fewer.length, 7);
            Term[] all = new Term[takes[builtin]];
            java.util.Arrays.fill(all, Term.fn(0));
            Lab.due("BUILTIN " + builtin + " with all", Term.fn(builtin, all), 2, 1 + 3 * all.length + 1, 2 * all.length, -1);
        }
    }

    /** What a choice of it costs: SIZES in STEPS, and that of the result in MEMORY. */
    private static void dueSize(String what, Term value, Data redeemer, int size, int steps, int memory, int kind) {
        Lab.due(what, Term.fn(16, Term.t(1), value, Term.unit()), redeemer, 0, 4 + 2 + steps + 1 + size + 1 + 1,
                3 + memory + size, kind);
        Lab.due(what + ", not chosen", Term.fn(16, Term.t(0), value, Term.unit()), redeemer, 0,
                4 + 2 + steps + 1 + size + 1 + 1, 3 + memory + 1, 3);
    }

    private static void sizes() {
        for (int many : new int[] {0, 1, 7, 8, 9, 15, 16, 23, 24, 55, 56, 63, 64}) {
            dueSize("BYTES " + many, Term.ss(many), Data.i(0), 1 + many / 8, 1, 0, 1);
        }
        dueSize("INTEGER", Term.i(Long.MAX_VALUE), Data.i(0), 1, 1, 0, 0);
        dueSize("TRUTH", Term.t(1), Data.i(0), 1, 1, 0, 2);
        dueSize("UNIT", Term.unit(), Data.i(0), 1, 1, 0, 3);
        dueSize("FUNCTION", Term.lams(5, Term.ss(64)), Data.i(0), 1, 1, 1, 5);
        dueSize("DELAYED", Term.delay(Term.ss(64)), Data.i(0), 1, 1, 1, 6);
        dueSize("BUILTIN", Term.fn(0), Data.i(0), 1, 1, 1, 7);
        dueSize("BUILTIN with a VALUE", Term.fn(10, Term.ss(64)), Data.i(0), 1, 3, 2, 7);
    }

    private static void sizesOfData() {
        Data[] some = {Data.i(Long.MIN_VALUE), Data.b(), Data.bs(7), Data.bs(8), Data.bs(63), Data.bs(64), Data.l(), Data.m(),
            Data.c(127), Data.l(Data.bs(4), Data.bs(3)), Data.l(Data.bs(4), Data.bs(4)), Data.l(Data.bs(7), Data.bs(7)),
            Data.l(Data.bs(7), Data.bs(8)), Data.l(Data.bs(7), Data.bs(9)), Data.m(Data.bs(5), Data.bs(3)),
            Data.m(Data.i(1), Data.i(2), Data.i(1), Data.l(Data.i(3))), Data.c(5, Data.bs(1), Data.l(Data.bs(7))),
            Data.c(5, Data.bs(1), Data.l(Data.bs(6))), Data.wide(150), Data.deep(9)};
        int[] sizes = {1, 1, 1, 2, 8, 9, 1, 1, 1, 3, 4, 4, 4, 5, 4, 6, 5, 4, 150, 9};
        for (int k = 0; k < some.length; k++) {
            dueSize("DATA " + k, Term.v(2), some[k], sizes[k], 1, 0, 4);
        }
        dueSize("EMPTY", Term.empty(), Data.i(0), 1, 1, 0, 4);
    }

    private static void firstOfAllAStep() {
        Term[] constants = {Term.i(5), Term.ss(3), Term.t(1), Term.unit(), Term.empty()};
        for (int k = 0; k < constants.length; k++) {
            Term term = constants[k];
            Budget.dueSteps("kind " + term.kind(), 2, bound -> term, 0, 1, 0, k);
            Budget.dueSteps("kind " + term.kind(), 1, bound -> term, 0, 1, 0, k);
            Budget.dueSteps("kind " + term.kind(), 0, bound -> term, 4, 0, 0, -1);
        }
        Budget.dueSteps("VARIABLE", 1, bound -> Term.v(2 + bound), 0, 1, 0, 4);
        Budget.dueSteps("VARIABLE", 0, bound -> Term.v(2 + bound), 4, 0, 0, -1);
        Term[] made = {Term.lam(Term.unit()), Term.delay(Term.unit()), Term.fn(0)};
        for (int k = 0; k < made.length; k++) {
            Term term = made[k];
            Budget.dueSteps("kind " + term.kind(), 1, bound -> term, 0, 1, 1, 5 + k);
            Budget.dueSteps("kind " + term.kind(), 0, bound -> term, 4, 0, 0, -1);
        }
        Budget.dueSteps("ERROR", 1, bound -> Term.error(), 1, 1, 0, -1);
        Budget.dueSteps("ERROR", 0, bound -> Term.error(), 4, 0, 0, -1);
        Term[] parts = {Term.app(Term.unit(), Term.unit()), Term.force(Term.unit())};
        for (Term term : parts) {
            Budget.dueSteps("kind " + term.kind(), 1, bound -> term, 4, 1, 0, -1);
            Budget.dueSteps("kind " + term.kind(), 0, bound -> term, 4, 0, 0, -1);
        }
    }

    private static void error() {
        Lab.due("ERROR", Term.error(), 1, 1, 0, -1);
        Lab.due("FORCE of it", Term.force(Term.error()), 1, 2, 0, -1);
        Lab.due("within a FUNCTION", Term.lam(Term.error()), 0, 1, 1, 5);
        Lab.due("within a FUNCTION that is called", Term.app(Term.lam(Term.error()), Term.unit()), 1, 4, 2, -1);
        Lab.due("FORCE of DELAY of it", Term.force(Term.delay(Term.error())), 1, 3, 1, -1);
        Lab.due("an argument that is not used", Term.app(Term.lam(Term.t(1)), Term.error()), 1, 3, 1, -1);
    }

    private static void made() {
        Term[] terms = {Term.lam(Term.unit()), Term.delay(Term.unit()), Term.fn(0)};
        for (int k = 0; k < terms.length; k++) {
            Term term = terms[k];
            Budget.dueMemory("kind " + term.kind(), 1, bound -> term, 0, 1, 1, 5 + k);
            Budget.dueMemory("kind " + term.kind(), 0, bound -> term, 5, 1, 0, -1);
        }
        Budget.dueMemory("a constant", 0, UNIT, 0, 1, 0, 3);
        Budget.dueMemory("a VARIABLE", 0, bound -> Term.v(bound + 2), 0, 1, 0, 4);
    }

    private static void delayed() {
        Lab.due("FORCE of DELAY", Term.force(Term.delay(Term.t(1))), 0, 3, 1, 2);
        Lab.due("FORCE twice", Term.force(Term.force(Term.delay(Term.delay(Term.unit())))), 0, 5, 2, 3);
        Lab.due("FORCE once too often", Term.force(Term.force(Term.delay(Term.unit()))), 2, 4, 1, -1);
        for (Term value : new Term[] {Term.i(5), Term.s(1), Term.t(1), Term.unit(), Term.empty(), Term.v(2)}) {
            Lab.due("FORCE of kind " + value.kind(), Term.force(value), 2, 2, 0, -1);
        }
        Lab.due("FORCE of a FUNCTION", Term.force(Term.lam(Term.unit())), 2, 2, 1, -1);
        Lab.due("FORCE of a BUILTIN", Term.force(Term.fn(0)), 2, 2, 1, -1);
    }

    private static void functions() {
        for (Term value : new Term[] {Term.i(5), Term.s(1), Term.t(1), Term.unit(), Term.empty(), Term.v(2)}) {
            Lab.due("a call of kind " + value.kind(), Term.app(value, Term.unit()), 2, 3, 0, -1);
        }
        Lab.due("a call of DELAYED", Term.app(Term.delay(Term.unit()), Term.unit()), 2, 3, 1, -1);
        Lab.due("the argument is EVALUATED before", Term.app(Term.unit(), Term.lam(Term.unit())), 2, 3, 1, -1);
        Lab.due("the argument fails before", Term.app(Term.unit(), Term.error()), 1, 3, 0, -1);
        Term noFunction = Term.app(Term.unit(), Term.lam(Term.unit()));
        Budget.dueSteps("the argument's STEP is there", 3, bound -> noFunction, 2, 3, 1, -1);
        Budget.dueSteps("the argument's STEP is not there", 2, bound -> noFunction, 4, 2, 0, -1);
        Budget.dueMemory("the argument's MEMORY is there", 1, bound -> noFunction, 2, 3, 1, -1);
        Budget.dueMemory("the argument's MEMORY is not there", 0, bound -> noFunction, 5, 3, 0, -1);
        Lab.due("the function fails first", Term.app(Term.error(), Term.fn(0)), 1, 2, 0, -1);
        Lab.due("a DATUM as function", Term.app(Term.v(1), Term.v(2)), 2, 3, 0, -1);
        Lab.due("one VALUE too many", Term.fn(0, Term.i(1), Term.i(1), Term.i(1)), 2, 1 + 5 + 3 + 1, 3, -1);
    }

    private static void calls() {
        // APPLY, LAMBDA, its argument, its body.
        Term call = Term.app(Term.lam(Term.v(1)), Term.t(1));
        Lab.due("a call", call, 0, 4, 2, 2);
        Lab.due("two calls", Term.app(Term.lams(2, Term.v(2)), Term.t(1), Term.unit()), 0, 7, 4, 2);
        Budget.dueMemory("a call", 2, bound -> call, 0, 4, 2, 2);
        Budget.dueMemory("a call", 1, bound -> call, 5, 3, 1, -1);
    }

    private static void oneValueMore() {
        Term one = Term.fn(0, Term.i(1));
        Budget.dueMemory("one VALUE", 2, bound -> one, 0, 3, 2, 7);
        Budget.dueMemory("one VALUE", 1, bound -> one, 5, 3, 1, -1);
        Term two = Term.fn(13, Term.i(1), Term.i(2));
        Budget.dueMemory("two VALUES of three", 3, bound -> two, 0, 5, 3, 7);
        Budget.dueMemory("two VALUES of three", 2, bound -> two, 5, 5, 2, -1);
        Lab.due("one of one is not one VALUE more", Term.fn(11, Term.s()), 0, 3 + 2, 1 + 1, 0);
    }

    private static void done() {
        // APPLY, APPLY, BUILTIN and two constants; then their SIZES and 1.
        Lab.due("equal INTEGERS", Term.fn(7, Term.i(5), Term.i(5)), 0, 5 + 3, 2 + 1, 2);
        Lab.due("BYTES 7 and 8", Term.fn(10, Term.ss(7), Term.ss(8)), 0, 5 + 1 + 2 + 1, 2 + 2, 1);
        Lab.due("BYTES 64 and 0", Term.fn(10, Term.ss(64), Term.ss(0)), 0, 5 + 9 + 1 + 1, 2 + 9, 1);
        Lab.due("BYTES 63", Term.fn(11, Term.ss(63)), 0, 3 + 8 + 1, 1 + 1, 0);
        Lab.due("DATA", Term.fn(17, Term.v(2), Term.v(2)), Data.l(Data.bs(4), Data.bs(4)), 0, 5 + 4 + 4 + 1, 3, 2);
        Lab.due("the others", Term.fn(27, Term.v(2)), Data.l(Data.i(1), Data.bs(16), Data.l()), 0,
                3 + 4 + 2 + 1, 1 + 3 + 2, 4);
        Lab.due("the first", Term.fn(26, Term.v(2)), Data.l(Data.wide(10), Data.bs(16)), 0, 3 + 12 + 2 + 1, 1 + 10, 4);
        Term one = Term.fn(22, Term.i(1));
        Budget.dueSteps("one VALUE", 5, bound -> one, 0, 5, 2, 4);
        Budget.dueSteps("one VALUE", 4, bound -> one, 4, 3, 1, -1);
        Budget.dueSteps("one VALUE", 3, bound -> one, 4, 3, 1, -1);
        Term two = Term.fn(0, Term.i(1), Term.i(1));
        Budget.dueSteps("two VALUES", 8, bound -> two, 0, 8, 3, 0);
        Budget.dueSteps("two VALUES", 7, bound -> two, 4, 5, 2, -1);
        Term large = Term.fn(11, Term.ss(64));
        Budget.dueSteps("BYTES 64", 12, bound -> Term.fn(11, Term.ss(63)), 0, 12, 2, 0);
        Budget.dueSteps("BYTES 64", 12, bound -> large, 4, 3, 1, -1);
    }

    private static void orderWhenDone() {
        Term wrongKind = Term.fn(3, Term.i(1), Term.unit());
        Term noResult = Term.fn(3, Term.i(1), Term.i(0));
        Lab.due("not of the kind", wrongKind, 2, 5 + 3, 2, -1);
        Lab.due("no such result", noResult, 3, 5 + 3, 2, -1);
        Lab.due("the other one is not of the kind", Term.fn(3, Term.unit(), Term.i(0)), 2, 5 + 3, 2, -1);
        for (Term term : new Term[] {wrongKind, noResult}) {
            int answer = term == wrongKind ? 2 : 3;
            Budget.dueSteps("STEPS before " + answer, 8, bound -> term, answer, 8, 2, -1);
            Budget.dueSteps("STEPS before " + answer, 7, bound -> term, 4, 5, 2, -1);
            Budget.dueMemory(answer + " before MEMORY", 2, bound -> term, answer, 8, 2, -1);
        }
        Term sum = Term.fn(0, Term.i(1), Term.i(1));
        Budget.dueMemory("the result", 3, bound -> sum, 0, 8, 3, 0);
        Budget.dueMemory("the result", 2, bound -> sum, 5, 8, 2, -1);
        Term data = Term.fn(23, Term.ss(64));
        Budget.dueMemory("a result of SIZE 9", 10, bound -> data, 0, 3 + 9 + 1, 10, 4);
        Budget.dueMemory("a result of SIZE 9", 9, bound -> data, 5, 3 + 9 + 1, 1, -1);
        Budget.dueMemory("a result of SIZE 9", 1, bound -> data, 5, 3 + 9 + 1, 1, -1);
        Term choice = Term.fn(16, Term.t(1), Term.ss(16), Term.ss(64));
        Budget.dueMemory("the chosen one", 6, bound -> choice, 0, 7 + 1 + 3 + 9 + 1, 6, 1);
        Budget.dueMemory("the chosen one", 5, bound -> choice, 5, 7 + 1 + 3 + 9 + 1, 3, -1);
    }

    /** Something that waits for a term: an APPLY for its argument, an APPLY for its function, a FORCE. */
    private static Term wait(int form, int identity, Term term) {
        switch (form) {
            case 0: return Term.app(Term.v(identity), term);
            case 1: return Term.app(term, Term.unit());
            default: return Term.force(term);
        }
    }

    /** What a waiting one gets comes to the same once more: TRUTH 1, a FUNCTION, DELAYED. */
    private static Term seed(int form) {
        Term function = Term.lams(2, Term.app(Term.v(2), Term.v(2)));
        Term delayed = Term.lam(Term.delay(Term.app(Term.v(1), Term.v(1))));
        return form == 0 ? Term.t(1) : form == 1 ? Term.app(function, function) : Term.app(delayed, delayed);
    }

    /** At most so many wait at once: nine times 42, the APPLY in the midst of them, and what is missing around these. */
    private static Term waiting(int form, int most, Term seed) {
        // Its FUNCTION is VARIABLE 2, what that is called with VARIABLE 1, the identity VARIABLE 3.
        Term nest = Term.app(Term.v(2), Term.v(1));
        for (int k = 0; k < 42; k++) {
            nest = wait(form, 3, nest);
        }
        Term chain = Term.lam(Term.v(1));
        for (int k = 0; k < 9; k++) {
            chain = Term.app(Term.v(1), chain);
        }
        Term body = Term.app(chain, seed);
        for (int k = 9 * 42 + 1; k < most; k++) {
            body = wait(form, 2, body);
        }
        return Term.app(Term.lam(Term.app(Term.lam(body), Term.lams(2, nest))), Term.lam(Term.v(1)));
    }

    private static void mostWaiting() {
        int[] kinds = {2, 5, 6};
        for (int form = 0; form < 3; form++) {
            Bench bench = Lab.run(waiting(form, 400, seed(form)), Data.i(0));
            Check.due("400 of form " + form, bench.x.latestOf(3), 0);
            Check.due("what it comes to", bench.x.latestOf(6), kinds[form]);
            Lab.dueAnswer("399 of form " + form, waiting(form, 399, seed(form)), 0);
            Lab.dueAnswer("401 of form " + form, waiting(form, 401, seed(form)), 6);
            Lab.dueAnswer("402 of form " + form, waiting(form, 402, seed(form)), 6);
        }
        // The APPLYS of the script to its DATA wait for it, too: two of a POLICY, three of an INPUT.
        for (int most = 397; most <= 399; most++) {
            Bench policy = Lab.runScript(waiting(0, most, Term.lams(2, Term.t(1))), Data.i(0));
            Check.due(most + " in a POLICY's script", policy.x.latestOf(3), most <= 398 ? 0 : 6);
            Bench input = Lab.runInput(waiting(0, most, Term.lams(3, Term.t(1))), Data.i(0), Data.i(0));
            Check.due(most + " in an INPUT's script", input.x.latestOf(3), most <= 397 ? 0 : 6);
        }
    }

    private static Term loop(Term body) {
        return Term.app(Term.lam(body), Term.lam(body));
    }

    private static void tooManyWait() {
        // An APPLY waits for its argument in each call: APPLY, LAMBDA, APPLY, VARIABLE, VARIABLE.
        Term waits = loop(Term.app(Term.lam(Term.unit()), Term.app(Term.v(1), Term.v(1))));
        Lab.due("APPLYS wait for arguments", waits, 6, 3 + 399 * 5 + 3, 2 + 1 + 399 * 2 + 1, -1);
        // For its function: APPLY, APPLY, VARIABLE, VARIABLE.
        Term body = Term.app(Term.app(Term.v(1), Term.v(1)), Term.unit());
        Lab.due("APPLYS wait for functions", loop(body), 6, 3 + 399 * 4 + 2, 2 + 1 + 399, -1);
        // FORCE, APPLY, VARIABLE, VARIABLE.
        body = Term.force(Term.app(Term.v(1), Term.v(1)));
        Lab.due("FORCES wait, an APPLY is one too many", loop(body), 6, 3 + 399 * 4 + 2, 2 + 1 + 399, -1);
        // Three FORCES, APPLY, VARIABLE, VARIABLE: behind 133 calls the second FORCE is the 401st.
        body = Term.force(Term.force(Term.force(Term.app(Term.v(1), Term.v(1)))));
        Lab.due("a FORCE is one too many", loop(body), 6, 3 + 133 * 6 + 2, 2 + 1 + 133, -1);
        // The last of these STEPS is that of the APPLY that is one too many.
        int steps = 3 + 399 * 5 + 3;
        Budget.dueSteps("the last STEP", steps, bound -> waits, 6, steps, 802, -1);
        Budget.dueSteps("no STEP is left", steps - 1, bound -> waits, 4, steps - 1, 802, -1);
    }

    private static void bodiesDoNotWait() {
        // Calls at the end of a body never wait: more than 400 of them end for want of MEMORY alone.
        Lab.dueAnswer("calls at the end", loop(Term.app(Term.v(1), Term.v(1))), 5);
        Lab.dueAnswer("FORCES at the end", loop(Term.force(Term.delay(Term.app(Term.v(1), Term.v(1))))), 5);
        Lab.dueAnswer("calls of calls at the end", loop(Term.app(Term.lam(Term.app(Term.v(2), Term.v(2))), Term.unit())), 5);
    }

    private static void stepsEnd() {
        Budget.dueSteps("all STEPS", 1, bound -> Term.t(1), 0, 1, 0, 2);
        Budget.dueSteps("one more", 0, bound -> Term.t(1), 4, 0, 0, -1);
        // What can't be paid is not counted: the SIZE of the CONTEXT and 1.
        Budget.dueSteps("a BUILTIN that costs too much", 12, bound -> Term.fn(18, Term.v(1 + bound)), 4, 3, 1, -1);
        // A let costs 56 STEPS and 5 of MEMORY, a call 3 and 1; 338 of both, then the seven NODES of one more let.
        Term context = Term.v(2);
        Term lets = loop(Term.app(Term.lam(Term.app(Term.v(2), Term.v(2))), Term.fn(17, context, context)));
        Lab.due("calls that cost STEPS", lets, 4, 3 + 59 * 338 + 7, 2 + 1 + 6 * 338 + 3, -1);
    }

    private static void memoryEnds() {
        Budget.dueMemory("all MEMORY", 1, bound -> Term.force(Term.delay(Term.t(1))), 0, 3, 1, 2);
        Budget.dueMemory("one more", 0, bound -> Term.force(Term.delay(Term.t(1))), 5, 2, 0, -1);
        // Three STEPS for APPLY and the LAMBDAS, which cost 2; then 1 and three STEPS for each call.
        int calls = 3000 - Lab.MEMORY_BEFORE - 2;
        Lab.due("calls without end", loop(Term.app(Term.v(1), Term.v(1))), 5, 3 + 3 * calls, 2 + calls, -1);
        // A let costs 157 STEPS and 153 of MEMORY: LAMBDA, BUILTIN, the result, and the call.
        Data redeemer = Data.l(Data.wide(150));
        Lab.due("19 results", firsts(19, 2), redeemer, 0, 19 * 157 + 1, 19 * 153, 2);
        Lab.due("20 results", firsts(20, 2), redeemer, 5, 20 * 157, 19 * 153 + 2, -1);
    }

    private static Term firsts(int times, int bound) {
        return times == 0 ? Term.t(1)
                : Term.app(Term.lam(firsts(times - 1, bound + 1)), Term.fn(26, Term.v(bound)));
    }

    /** A script of an OUTPUT that costs all MEMORY, or 1 too much, with a DATUM of 127 NODES. */
    private static Term spendingAll(int pads) {
        Term term = Term.t(1);
        for (int k = 0; k < pads; k++) {
            term = Term.force(Term.delay(term));
        }
        for (int k = 22; k >= 0; k--) {
            // A MAP of the DATUM: LAMBDA, BUILTIN, 127 NODES, the call.
            term = Term.app(Term.lam(term), Term.fn(30, Term.v(3 + k)));
        }
        return Term.lams(3, term);
    }

    private static void eachTime() {
        int steps = 9 + 23 * (5 + 127 + 1) + 4 * 2 + 1;
        Check.due("eight runs have more than 20000 STEPS", 8 * steps > 20000, true);
        Bench bench = new Bench(1).endow(9, 1, 1000);
        bench.register(spendingAll(4));
        bench.register(spendingAll(5));
        Tx all = new Tx().back(8).fee(200).sign(1).pay(1, 8 * 900 - 200);
        for (int k = 0; k < 8; k++) {
            bench.due("to the SCRIPT", new Tx().in(k).fee(100).sign(1).payScript(0, 900, Data.wide(127)), 0);
            all.in(9 + k);
        }
        bench.due("eight runs", all, 0);
        bench.dueLatest("eight runs", 0, -1, 8, 0, steps, 3000, 2);
        bench.dueLook("STEPS of all runs", 10, 8 * steps);
        Bench more = Lab.runInput(spendingAll(5), Data.wide(127), Data.i(0));
        // The STEPS of FORCE and DELAY are counted, that of TRUTH is not come to.
        more.dueLatest("1 of MEMORY more", 20, -1, 1, 5, steps + 2 - 1, 3000, -1);
        // DATA are one NODE each, as large as they may be.
        for (Data data : new Data[] {Data.i(0), Data.wide(127), Data.l(Data.bs(64), Data.bs(59))}) {
            Lab.runInput(Term.lams(3, Term.t(1)), data, data).dueLatest("DATA", 0, -1, 1, 0, 10, 6, 2);
        }
    }

    private static void threeArguments() {
        // DATUM, REDEEMER, CONTEXT are VARIABLES 3, 2, 1.
        Term isFive = Term.fn(17, Term.v(3), Term.make(Data.i(5)));
        Term isSix = Term.fn(17, Term.v(2), Term.make(Data.i(6)));
        Term isContext = Term.fn(7, Term.fn(18, Term.v(1)), Term.i(0));
        Term script = Term.lams(3, Term.fn(16, isFive, Term.fn(16, isSix, isContext, Term.t(0)), Term.t(0)));
        Check.due("as they were given", Lab.runInput(script, Data.i(5), Data.i(6)).x.latestOf(0), 0);
        Check.due("another DATUM", Lab.runInput(script, Data.i(4), Data.i(6)).x.latestOf(0), 20);
        Check.due("another REDEEMER", Lab.runInput(script, Data.i(5), Data.i(7)).x.latestOf(0), 20);
        Check.due("in turn", Lab.runInput(script, Data.i(6), Data.i(5)).x.latestOf(0), 20);
        Lab.runInput(Term.lams(3, Term.t(1)), Data.i(0), Data.i(0)).dueLatest("three", 0, -1, 1, 0, 10, 6, 2);
        Lab.runInput(Term.lams(4, Term.t(1)), Data.i(0), Data.i(0)).dueLatest("four", 20, -1, 1, 0, 10, 7, 5);
        Lab.runInput(Term.lams(2, Term.t(1)), Data.i(0), Data.i(0)).dueLatest("two", 20, -1, 1, 2, 9, 4, -1);
    }

    private static void twoArguments() {
        Lab.runScript(Term.lams(2, Term.t(1)), Data.i(0)).dueLatest("two", 0, -1, 1, 0, 7, 4, 2);
        Lab.runScript(Term.lams(3, Term.t(1)), Data.i(0)).dueLatest("three", 20, -1, 1, 0, 7, 5, 5);
        Lab.runScript(Term.lams(1, Term.t(1)), Data.i(0)).dueLatest("one", 20, -1, 1, 2, 6, 2, -1);
        Lab.runScript(Term.t(1), Data.i(0)).dueLatest("none", 20, -1, 1, 2, 4, 0, -1);
        Term isSix = Term.fn(17, Term.v(2), Term.make(Data.i(6)));
        Check.due("its REDEEMER", Lab.accepts(isSix, Data.i(6)), true);
        Check.due("another REDEEMER", Lab.accepts(isSix, Data.i(7)), false);
    }

    private static void accepting() {
        Term[] others = {Term.t(0), Term.i(1), Term.i(0), Term.unit(), Term.empty(), Term.s(1), Term.lam(Term.t(1)),
            Term.delay(Term.t(1)), Term.fn(7), Term.fn(22, Term.i(1)), Term.v(1), Term.v(2), Term.error()};
        Check.due("TRUTH 1", Lab.accepts(Term.t(1), Data.i(0)), true);
        for (Term other : others) {
            Bench bench = Lab.run(other, Data.i(1));
            Check.due("kind " + other.kind(), bench.x.latestOf(0), 20);
            bench.dueLook("APPLIED", 7, 0);
            bench.dueLook("TAKEN", 8, 1);
        }
        Check.due("a TRUTH that is found", Lab.accepts(Term.fn(8, Term.i(1), Term.i(2)), Data.i(0)), true);
        Check.due("a TRUTH that is not so", Lab.accepts(Term.fn(8, Term.i(2), Term.i(2)), Data.i(0)), false);
    }

    /** What a run that failed leaves behind is not seen by the one that comes then. */
    private static void nothingIsKept() {
        Term self = Term.app(Term.v(1), Term.v(1));
        Term context = Term.v(2);
        // Each of these makes some 200 times 64 bytes.
        Term joins = loop(Term.app(Term.lam(Term.app(Term.v(2), Term.v(2))), Term.fn(10, Term.ss(32), Term.ss(32))));
        Term[] fails = {Term.app(Term.unit(), Term.app(Term.unit(), Term.error())),
            Term.app(Term.unit(), Term.force(Term.unit())),
            Term.app(Term.unit(), Term.fn(3, Term.i(1), Term.i(0))),
            loop(Term.app(Term.lam(Term.app(Term.v(2), Term.v(2))), Term.fn(17, context, context))),
            loop(self), loop(Term.force(self)), joins, joins};
        int[] answers = {1, 2, 3, 4, 5, 6, 5, 5};
        // Its own VARIABLES, BYTES and DATA.
        Term good = Term.app(Term.lam(Term.fn(16, Term.fn(14, Term.fn(10, Term.s(1), Term.s(2, 3)), Term.v(1)),
                Term.fn(17, Term.v(3), Term.make(Data.l(Data.b(4)))), Term.t(0))), Term.fn(10, Term.s(1, 2), Term.s(3)));
        Bench bench = new Bench(1).endow(FIRST, 1, 10000).endow(1, 1, 10000);
        bench.register(Term.lams(2, good));
        for (Term term : fails) {
            bench.register(Term.lams(2, term));
        }
        bench.due("at first", minting(FIRST, 0, 1), 0);
        int steps = bench.x.latestOf(4);
        int memory = bench.x.latestOf(5);
        for (int k = 0; k < fails.length; k++) {
            int made = FIRST + 1 + k;
            bench.due("it fails", minting(made, k, 2 + k), 20);
            Check.due("the machine's answer", bench.x.latestOf(3), answers[k]);
            Check.due("no VALUE", bench.x.latestOf(6), -1);
            bench.due("behind " + answers[k], minting(made, FIRST - 1, 1), 0);
            bench.dueLatest("behind " + answers[k], 0, -1, 1, 0, steps, memory, 2);
        }
    }

    private static final int FIRST = 9;

    /** The last OUTPUT that was made goes to one more, together with one more of a KIND of the POLICY. */
    private static Tx minting(int in, int back, int policy) {
        int before = in - FIRST;
        long base = 10000 - 100L * (before + 1);
        Tx tx = new Tx().in(in).back(back).fee(100).sign(1).mint(policy, 0, 1).redeem(policy, Data.l(Data.b(4)));
        Data value = policy == 1 ? Tx.value(0, 0, base, 1, 0, before + 1)
                : Tx.value(0, 0, base, 1, 0, before, policy, 0, 1);
        return tx.pay(Tx.owner(1), value, Data.i(0));
    }
}
