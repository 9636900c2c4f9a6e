import java.util.Arrays;
import java.util.function.IntFunction;

/** Terms for the Lab that spend STEPS or MEMORY around another one, so that just so much is left for that. */
final class Budget {
    static final int STEPS = 20000;
    static final int MEMORY = 3000;
    private static final int BURNS = 19;
    private static final int LARGEST = 522;
    private static final int CONTEXT_SIZE = 24;
    private static final int WIDTH = 154;
    private static final int MEMORY_LEFT = MEMORY - Lab.MEMORY_BEFORE - BURNS * (3 + WIDTH);

    private Budget() {
    }

    /** The body gets how many LAMBDAS there are around it, beside the two of the script. */
    static void dueSteps(String what, int left, IntFunction<Term> body, int answer, int steps, int memory, int kind) {
        int size = LARGEST;
        while (restOf(left, size) < 0 || padsOf(restOf(left, size)) < 0) {
            size--;
        }
        int rest = restOf(left, size);
        int pads = padsOf(rest);
        int contexts = (rest - pads) / (6 + CONTEXT_SIZE);
        int twos = pads % 3 == 0 ? 0 : pads % 3 == 1 ? 2 : 1;
        int threes = (pads - 2 * twos) / 3;
        Term term = threes(threes, twos(twos, body.apply(BURNS + contexts + threes)));
        for (int k = contexts - 1; k >= 0; k--) {
            // Five NODES, the SIZE of the CONTEXT, and 1; LAMBDA, BUILTIN, the result, the call.
            term = Term.app(Term.lam(term), Term.fn(18, Term.v(1 + BURNS + k)));
        }
        for (int k = BURNS - 1; k >= 0; k--) {
            // Seven NODES, the SIZE of the REDEEMER twice, and 1; LAMBDA, BUILTIN, one VALUE more, the result, the call.
            Term redeemer = Term.v(2 + k);
            term = Term.app(Term.lam(term), Term.fn(17, redeemer, redeemer));
        }
        int spent = BURNS * 5 + 4 * contexts + 2 * threes + twos;
        Lab.due(what + ", " + left + " STEPS left", term, redeemerOf(size), answer,
                STEPS - Lab.STEPS_BEFORE - left + steps, spent + memory, kind);
    }

    /** What is to be spent beside the burns, with a REDEEMER of that SIZE. */
    private static int restOf(int left, int size) {
        return STEPS - Lab.STEPS_BEFORE - left - BURNS * (8 + 2 * size);
    }

    /** What twos and threes have to do of it; below 0 if they can't, or would be too deep. */
    private static int padsOf(int rest) {
        int pads = rest % (6 + CONTEXT_SIZE);
        return pads == 1 || pads > 20 || rest > 2 * (6 + CONTEXT_SIZE) ? -1 : pads;
    }

    static void dueMemory(String what, int left, IntFunction<Term> body, int answer, int steps, int memory, int kind) {
        int pads = MEMORY_LEFT - left;
        Term term = threes(pads / 2, twos(pads % 2, body.apply(BURNS + pads / 2)));
        for (int k = BURNS - 1; k >= 0; k--) {
            // The first of a LIST of one: LAMBDA, BUILTIN, what it is, the call; five NODES, the SIZE of all, and 1.
            term = Term.app(Term.lam(term), Term.fn(26, Term.v(2 + k)));
        }
        int spent = BURNS * (5 + WIDTH + 1 + 1) + 3 * (pads / 2) + 2 * (pads % 2);
        Lab.due(what + ", " + left + " of MEMORY left", term, Data.l(Data.wide(WIDTH)), answer, spent + steps,
                MEMORY - Lab.MEMORY_BEFORE - left + memory, kind);
    }

    /** Three STEPS and 2 of MEMORY each: APPLY, LAMBDA, UNIT, and the call. */
    private static Term threes(int many, Term rest) {
        return many == 0 ? rest : Term.app(Term.lam(threes(many - 1, rest)), Term.unit());
    }

    /** Two STEPS and 1 of MEMORY each: FORCE, DELAY. */
    private static Term twos(int many, Term rest) {
        return many == 0 ? rest : Term.force(Term.delay(twos(many - 1, rest)));
    }

    /** A LIST with 45 BYTES of SIZE 9, and INTEGERS. */
    private static Data redeemerOf(int size) {
        Data[] parts = new Data[size - 1 - 8 * 45];
        Arrays.fill(parts, Data.i(0));
        Arrays.fill(parts, 0, 45, Data.bs(64));
        Check.due("the SIZE of the REDEEMER", Data.l(parts).size(), size);
        return Data.l(parts);
    }
}
