import java.io.ByteArrayOutputStream;
import java.math.BigInteger;
import java.util.Arrays;
import java.util.function.IntFunction;

/** Promise 5: registerScript; TERMS and what is wrong with their bytes. */
public final class Promise05Test {
    public static void main(String[] args) {
        Edge.of("kind 0 VARIABLE i (1 .. 200)", Promise05Test::variables);
        Edge.of("6 BUILTIN b (0 .. 31)", Promise05Test::builtins);
        Edge.of("7 INTEGER (a long)", Promise05Test::integers);
        Edge.of("8 BYTES (0 .. 64)", Promise05Test::bytes);
        Edge.of("9 TRUTH (0, 1)", Promise05Test::truths);
        Edge.of("1 LAMBDA of a body, 2 APPLY of a function and an argument", Promise05Test::kinds);
        Edge.of("Its NODES are itself and those of what it is of", Promise05Test::nodesAndDepth);
        Edge.of("Its DEPTH is 1, or 1 more than the greatest of what it is of: at most 60.", Promise05Test::depth);
        Edge.of("A VARIABLE i is bound by the i-th LAMBDA around it, the innermost being the first.",
                Promise05Test::bound);
        Edge.of("U of a number is written in groups of seven bits, the lowest first, a byte each, with 128 added in all but the"
                + " last one", Promise05Test::bytesByHand);
        Edge.of("and as few of these as can be", Promise05Test::unsignedGroups);
        Edge.of("the highest bit of the last one (64) is the sign of all that would follow", Promise05Test::signedGroups);
        Edge.of("1: the TAPE ends where a byte is to be read", Promise05Test::endsAnywhere);
        Edge.of("3: its kind is none (its byte)", Promise05Test::noKind);
        Edge.of("5: the DEPTH would be above 60", Promise05Test::tooDeep);
        Edge.of("6: it would have more than 200 NODES", Promise05Test::tooManyNodes);
        Edge.of("2: U has a fifth byte with 128 in it, or is above 2147483647", Promise05Test::unsignedTooLarge);
        Edge.of("S has a tenth one with 128 in it, or is no long", Promise05Test::signedTooLarge);
        Edge.of("or one of them is not as few bytes as can be", Promise05Test::notAsFewBytes);
        Edge.of("3: a number that can't be there (its last byte)", Promise05Test::numbersThatCannotBe);
        Edge.of("4: a VARIABLE that is not bound within the TERM", Promise05Test::notBound);
        Edge.of("1 for a byte of BYTES", Promise05Test::bytesEnd);
        Edge.of("the first FAULT that is seen ends it", Promise05Test::orderOfFaults);
        Edge.of("0 less the fault of reading (1 .. 6; the TAPE being empty, 1)", Promise05Test::emptyTape);
        Edge.of("-7 if bytes are left behind", Promise05Test::bytesLeft);
        Edge.of("-8 if it has more than 190 NODES", Promise05Test::mostNodes);
        Edge.of("each is a CLOSED TERM of at most 190 NODES", Promise05Test::largestScriptRuns);
        Edge.of("-9 if there are 32 SCRIPTS (the first of these)", Promise05Test::mostScripts);
        Edge.of("SCRIPTS, up to 32, have the numbers 0, 1, .. in the order in which they were registered",
                Promise05Test::numbersOfScripts);
        Edge.of("The TAPE is empty then.", Promise05Test::nothingIsKept);
        Check.end();
    }

    /** With a script already, so that it can be seen to stay. */
    private static Bench used() {
        Bench bench = new Bench(1).endow(1, 1, 100);
        bench.register(Term.lams(2, Term.t(1)));
        return bench;
    }

    private static void due(String what, int want, byte[] bytes) {
        if (want < 0) {
            Refused.dueScript(what, Promise05Test::used, bytes, want);
            return;
        }
        Bench bench = used();
        Check.due(what, bench.give(bytes).x.registerScript(), 1);
        bench.dueLook(what + ", the TAPE", 6, 0);
        bench.dueLook(what + ", SCRIPTS", 5, 2);
        Check.due(what + ", its bytes", bench.x.scriptOf(1, 2), bytes.length);
        Check.due(what + ", its runs", bench.x.scriptOf(1, 3), 0);
    }

    private static void due(String what, int want, int... bytes) {
        due(what, want, Data.b(bytes).bytes());
    }

    private static void due(String what, Term term, int want) {
        due(what, want, term.encode());
        if (want >= 0) {
            Bench bench = new Bench(1);
            bench.register(term);
            Check.due(what + ", its NODES", bench.x.scriptOf(0, 0), term.nodes());
            Check.due(what + ", its DEPTH", bench.x.scriptOf(0, 1), term.depth());
        }
    }

    private static void variables() {
        due("VARIABLE 0", -3, 1, 0, 0);
        due("VARIABLE 1", 0, 1, 0, 1);
        due("VARIABLE 2, not bound", -4, 1, 0, 2);
        // More than 59 LAMBDAS can't be around it, so that it is not bound; that is another fault.
        due("VARIABLE 199, not bound", -4, 1, 0, 199, 1);
        due("VARIABLE 200, not bound", -4, 1, 0, 200, 1);
        due("VARIABLE 201", -3, 1, 0, 201, 1);
        due("VARIABLE 202", -3, 1, 0, 202, 1);
    }

    private static void builtins() {
        for (int builtin = 0; builtin < 32; builtin++) {
            due("BUILTIN " + builtin, 0, 6, builtin);
        }
        for (int builtin : new int[] {32, 33, 64, 127, 128, 255}) {
            due("BUILTIN " + builtin, -3, 6, builtin);
        }
    }

    private static void integers() {
        for (long number : new long[] {Long.MAX_VALUE, Long.MIN_VALUE, Long.MAX_VALUE - 1, Long.MIN_VALUE + 1, 0, -1}) {
            due("INTEGER " + number, Term.i(number), 0);
            Lab.dueInteger("INTEGER " + number, Term.i(number), number);
        }
    }

    private static void bytes() {
        due("BYTES none", 0, 8, 0);
        due("BYTES 1", 0, 8, 1, 255);
        due("BYTES 63", Term.ss(63), 0);
        due("BYTES 64", Term.ss(64), 0);
        due("BYTES 65", -3, Bench.join(Data.b(8, 65).bytes(), new byte[65]));
        due("BYTES 128", -3, Bench.join(Data.b(8, 128).bytes(), new byte[128]));
        due("BYTES 255", -3, 8, 255);
        int[] row = new int[64];
        for (int k = 0; k < row.length; k++) {
            row[k] = 4 * k + 3;
        }
        Lab.dueBytes("BYTES 64", Term.s(row), row);
        Lab.dueBytes("BYTES none", Term.s());
    }

    private static void truths() {
        due("TRUTH 0", 0, 9, 0);
        due("TRUTH 1", 0, 9, 1);
        due("TRUTH 2", -3, 9, 2);
        due("TRUTH 128", -3, 9, 128);
        due("TRUTH 255", -3, 9, 255);
    }

    private static void kinds() {
        due("LAMBDA", Term.lam(Term.v(1)), 0);
        due("APPLY", Term.app(Term.unit(), Term.empty()), 0);
        due("DELAY", Term.delay(Term.error()), 0);
        due("FORCE", Term.force(Term.error()), 0);
        due("ERROR", Term.error(), 0);
        due("UNIT", Term.unit(), 0);
        due("EMPTY", Term.empty(), 0);
    }

    private static void nodesAndDepth() {
        int[][] rows = {{5}, {1, 5}, {2, 5, 5}, {2, 1, 5, 5}, {2, 5, 3, 5}, {2, 4, 4, 5, 3, 5}, {8, 3, 1, 2, 5}, {7, 128, 1}};
        int[][] wants = {{1, 1}, {2, 2}, {3, 2}, {4, 3}, {4, 3}, {6, 4}, {1, 1}, {1, 1}};
        for (int k = 0; k < rows.length; k++) {
            Bench bench = new Bench(1);
            bench.register(rows[k]);
            Check.due("NODES of TERM " + k, bench.x.scriptOf(0, 0), wants[k][0]);
            Check.due("DEPTH of TERM " + k, bench.x.scriptOf(0, 1), wants[k][1]);
            Check.due("bytes of TERM " + k, bench.x.scriptOf(0, 2), rows[k].length);
        }
    }

    /** So many NODES of the same kind within one another, and one in the midst. */
    private static Term nested(int kind, int many) {
        Term term = Term.unit();
        for (int k = 0; k < many; k++) {
            switch (kind) {
                case 0: term = Term.lam(term); break;
                case 1: term = Term.delay(term); break;
                case 2: term = Term.force(term); break;
                case 3: term = Term.app(term, Term.unit()); break;
                default: term = Term.app(Term.unit(), term); break;
            }
        }
        return term;
    }

    private static void depth() {
        for (int kind = 0; kind < 5; kind++) {
            due("DEPTH 59, " + kind, nested(kind, 58), 0);
            due("DEPTH 60, " + kind, nested(kind, 59), 0);
            due("DEPTH 61, " + kind, nested(kind, 60), -5);
        }
        due("the function is the deeper one", Term.app(nested(0, 40), nested(1, 10)), 0);
        due("the argument is the deeper one", Term.app(nested(0, 10), nested(1, 40)), 0);
        due("DEPTH 60 twice", Term.app(nested(2, 58), nested(0, 58)), 0);
        due("DEPTH 61 behind DEPTH 60", Term.app(nested(2, 58), nested(0, 59)), -5);
    }

    private static void bound() {
        due("VARIABLE 1 of no LAMBDA", Term.v(1), -4);
        due("VARIABLE 1 of a LAMBDA", Term.lam(Term.v(1)), 0);
        due("VARIABLE 2 of a LAMBDA", Term.lam(Term.v(2)), -4);
        due("VARIABLE 59 of 59 LAMBDAS", Term.lams(59, Term.v(59)), 0);
        due("VARIABLE 60 of 59 LAMBDAS", Term.lams(59, Term.v(60)), -4);
        due("VARIABLE 58 of 58 LAMBDAS", Term.lams(58, Term.v(58)), 0);
        due("VARIABLE 59 of 58 LAMBDAS", Term.lams(58, Term.v(59)), -4);
        due("DELAY, FORCE and APPLY are no LAMBDAS", Term.lam(Term.delay(Term.force(Term.app(Term.v(1), Term.v(2))))), -4);
        due("both parts of an APPLY", Term.lam(Term.app(Term.v(1), Term.v(1))), 0);
        due("LAMBDAS of the function do not count for the argument", Term.app(Term.lam(Term.v(1)), Term.v(1)), -4);
        due("those of the argument do not count for the function",
                Term.app(Term.v(1), Term.lam(Term.v(1))), -4);
        due("behind a deeper one", Term.lam(Term.app(Term.lams(2, Term.v(3)), Term.v(2))), -4);
        for (int i = 1; i <= 5; i++) {
            Term five = Term.app(Term.lams(5, Term.v(i)), Term.i(5), Term.i(4), Term.i(3), Term.i(2), Term.i(1));
            Lab.dueInteger("VARIABLE " + i + " of five LAMBDAS", five, i);
        }
    }

    private static byte[] variableOf(long number) {
        ByteArrayOutputStream out = new ByteArrayOutputStream();
        out.write(0);
        Term.unsigned(out, number);
        return out.toByteArray();
    }

    /** The number in one byte more than it needs. */
    private static byte[] longer(byte[] row, int last) {
        byte[] more = Arrays.copyOf(row, row.length + 1);
        more[row.length - 1] |= (byte) 128;
        more[row.length] = (byte) last;
        return more;
    }

    private static void dueBytes(String what, byte[] got, int... want) {
        Check.due("the bytes of " + what, Arrays.equals(got, Data.b(want).bytes()), true);
    }

    /** That the tests themselves write them as the document says. */
    private static void bytesByHand() {
        dueBytes("VARIABLE 1", variableOf(1), 0, 1);
        dueBytes("VARIABLE 127", variableOf(127), 0, 127);
        dueBytes("VARIABLE 128", variableOf(128), 0, 128, 1);
        dueBytes("VARIABLE 200", variableOf(200), 0, 200, 1);
        dueBytes("VARIABLE 2^31 - 1", variableOf(2147483647), 0, 255, 255, 255, 255, 7);
        dueBytes("INTEGER 0", Term.i(0).encode(), 7, 0);
        dueBytes("INTEGER -1", Term.i(-1).encode(), 7, 127);
        dueBytes("INTEGER 63", Term.i(63).encode(), 7, 63);
        dueBytes("INTEGER 64", Term.i(64).encode(), 7, 192, 0);
        dueBytes("INTEGER -64", Term.i(-64).encode(), 7, 64);
        dueBytes("INTEGER -65", Term.i(-65).encode(), 7, 191, 127);
        dueBytes("2^63 - 1", Term.i(Long.MAX_VALUE).encode(), 7, 255, 255, 255, 255, 255, 255, 255, 255, 255, 0);
        dueBytes("-2^63", Term.i(Long.MIN_VALUE).encode(), 7, 128, 128, 128, 128, 128, 128, 128, 128, 128, 127);
        dueBytes("a TERM", Term.lam(Term.app(Term.fn(31, Term.v(1)), Term.s(9, 8))).encode(), 1, 2, 2, 6, 31, 0, 1, 8, 2, 9, 8);
        due("a TERM", 0, 1, 2, 2, 6, 31, 0, 1, 8, 2, 9, 8);
    }

    private static void unsignedGroups() {
        for (int bits = 7; bits <= 28; bits += 7) {
            for (long number : new long[] {(1L << bits) - 1, 1L << bits}) {
                int length = number < 1L << bits ? bits / 7 : bits / 7 + 1;
                Check.due("bytes of " + number, variableOf(number).length, 1 + length);
                due("VARIABLE " + number, number <= 200 ? -4 : -3, variableOf(number));
                due("VARIABLE " + number + " in more bytes", -2, longer(variableOf(number), 0));
            }
        }
        due("VARIABLE 2^31 - 1", -3, variableOf(2147483647));
        due("VARIABLE 127 is one byte", -4, 0, 127);
        due("VARIABLE 130 is two bytes, the lowest first", -4, 0, 130, 1);
        due("VARIABLE 257 is two bytes, the lowest first", -3, 0, 129, 2);
    }

    private static void signedGroups() {
        for (int bits = 6; bits < 63; bits += 7) {
            long edge = 1L << bits;
            for (long number : new long[] {edge - 1, edge, edge + 1, -edge + 1, -edge, -edge - 1}) {
                boolean isWithin = number >= -edge && number < edge;
                Check.due("bytes of " + number, Term.i(number).encode().length, 1 + bits / 7 + (isWithin ? 1 : 2));
                due("INTEGER " + number, Term.i(number), 0);
                Lab.dueInteger("INTEGER " + number, Term.i(number), number);
            }
        }
        due("INTEGER 64", 0, 7, 192, 0);
        Lab.dueInteger("INTEGER 64", Term.i(64), 64);
        due("INTEGER -65", 0, 7, 191, 127);
    }

    private static void endsAnywhere() {
        Term term = Term.lam(Term.app(Term.fn(13, Term.i(1000), Term.v(1), Term.s(1, 2, 3)), Term.force(Term.t(1))));
        byte[] all = term.encode();
        due("all of it", term, 0);
        for (int last = 1; last <= all.length; last++) {
            due("without the last " + last, -1, Bench.without(all, last));
        }
        due("an APPLY without its argument", -1, 2, 10);
        due("a LAMBDA without its body", -1, 1);
        due("VARIABLE without its number", -1, 1, 0);
        due("BUILTIN without its number", -1, 6);
        due("TRUTH without its number", -1, 9);
        due("BYTES without their number", -1, 8);
        due("INTEGER without its number", -1, 7);
        due("U that goes on", -1, 1, 0, 129, 128, 128, 128);
        due("S that goes on", -1, 7, 128, 128, 128, 128, 128, 128, 128, 128, 128);
    }

    private static void noKind() {
        for (int kind : new int[] {12, 13, 16, 32, 64, 127, 128, 139, 255}) {
            due("kind " + kind, -3, kind);
            due("kind " + kind + " within", -3, 2, 10, kind);
        }
        due("kind 11", 0, 11);
    }

    private static byte[] bytesOf(Term around, int... last) {
        return Bench.join(Bench.without(around.encode(), 1), Data.b(last).bytes());
    }

    private static void tooDeep() {
        Term sixty = nested(2, 60);
        for (int kind = 0; kind < 12; kind++) {
            due("kind " + kind + " at DEPTH 61, before all else of it", -5, bytesOf(sixty, kind));
        }
        due("a kind that is none at DEPTH 61", -3, bytesOf(sixty, 12));
        due("the end at DEPTH 61", -1, bytesOf(sixty));
    }

    /** A term with so many NODES, an odd number of them, that is not deep. */
    private static Term broad(int nodes) {
        if (nodes <= 1) {
            return Term.unit();
        }
        int half = (nodes - 1) / 2;
        int left = half % 2 == 0 ? half - 1 : half;
        return Term.app(broad(left), broad(nodes - 1 - left));
    }

    private static void tooManyNodes() {
        due("200 NODES, which are no SCRIPT", Term.delay(broad(199)), -8);
        due("201 NODES", broad(201), -6);
        due("202 NODES", Term.delay(broad(201)), -6);
        for (int kind = 0; kind < 12; kind++) {
            due("kind " + kind + " as the 201st, before all else of it", -6, bytesOf(broad(201), kind));
        }
        due("the 201st is none", -3, bytesOf(broad(201), 12));
        due("the end at the 201st", -1, bytesOf(broad(201)));
        // 59 APPLYS, whose functions have 59 + 27 * 3 NODES, and a FORCE; then one more, at DEPTH 61.
        Term deep = Term.force(Term.unit());
        for (int k = 59; k >= 1; k--) {
            deep = Term.app(k <= 27 ? nested(2, 3) : Term.unit(), deep);
        }
        Check.due("NODES", deep.nodes(), 201);
        Check.due("DEPTH", deep.depth(), 61);
        due("DEPTH before NODES", deep, -5);
    }

    private static void unsignedTooLarge() {
        due("2^31 - 1", -3, 1, 0, 255, 255, 255, 255, 7);
        due("2^31", -2, 1, 0, 128, 128, 128, 128, 8);
        due("2^32", -2, 1, 0, 128, 128, 128, 128, 16);
        due("2^32 + 1", -2, 1, 0, 129, 128, 128, 128, 16);
        due("2^35 - 1", -2, 1, 0, 255, 255, 255, 255, 127);
        due("a fifth byte with 128", -2, 1, 0, 129, 128, 128, 128, 128, 0);
        due("a fifth byte with 128, at the end", -2, 1, 0, 129, 128, 128, 128, 128);
        due("a fifth byte without 128", -3, 1, 0, 129, 128, 128, 128, 1);
        due("a fourth byte with 128, at the end", -1, 1, 0, 129, 128, 128, 128);
    }

    private static void signedTooLarge() {
        due("2^63 - 1", 0, 7, 255, 255, 255, 255, 255, 255, 255, 255, 255, 0);
        due("-2^63", 0, 7, 128, 128, 128, 128, 128, 128, 128, 128, 128, 127);
        for (int last : new int[] {1, 2, 62, 63, 64, 65, 126}) {
            due("a tenth byte " + last + " behind 0", -2, 7, 128, 128, 128, 128, 128, 128, 128, 128, 128, last);
            due("a tenth byte " + last + " behind 1", -2, 7, 255, 255, 255, 255, 255, 255, 255, 255, 255, last);
        }
        for (BigInteger number : new BigInteger[] {BigInteger.TWO.pow(63),
            BigInteger.TWO.pow(63).negate().subtract(BigInteger.ONE), BigInteger.TWO.pow(64), BigInteger.TWO.pow(69)}) {
            ByteArrayOutputStream out = new ByteArrayOutputStream();
            out.write(7);
            Term.signed(out, number);
            due(number + " is no long", -2, out.toByteArray());
        }
        due("a tenth byte with 128", -2, 7, 128, 128, 128, 128, 128, 128, 128, 128, 128, 128, 0);
        due("a tenth byte with 128, at the end", -2, 7, 255, 255, 255, 255, 255, 255, 255, 255, 255, 255);
        due("a ninth byte with 128, at the end", -1, 7, 128, 128, 128, 128, 128, 128, 128, 128, 128);
    }

    private static void notAsFewBytes() {
        due("VARIABLE 0 in two bytes", -2, 1, 0, 128, 0);
        due("VARIABLE 1 in two bytes", -2, 1, 0, 129, 0);
        due("VARIABLE 127 in two bytes", -2, 1, 0, 255, 0);
        due("VARIABLE 128 in two bytes", -4, 1, 0, 128, 1);
        due("VARIABLE 1 in five bytes", -2, 1, 0, 129, 128, 128, 128, 0);
        for (int bits = 6; bits < 63; bits += 7) {
            long edge = 1L << bits;
            for (long number : new long[] {edge - 1, edge / 2, -edge, -edge / 2 - 1, 0, -1}) {
                byte[] row = Term.i(number).encode();
                due("INTEGER " + number + " in a byte more", -2, longer(row, number < 0 ? 127 : 0));
            }
        }
        due("INTEGER 63 in two bytes", -2, 7, 191, 0);
        due("INTEGER 64 in two bytes", 0, 7, 192, 0);
        due("INTEGER -64 in two bytes", -2, 7, 192, 127);
        due("INTEGER -65 in two bytes", 0, 7, 191, 127);
        due("INTEGER 2^62 - 1 in ten bytes", -2, 7, 255, 255, 255, 255, 255, 255, 255, 255, 191, 0);
        due("INTEGER 2^62 in ten bytes", 0, 7, 128, 128, 128, 128, 128, 128, 128, 128, 192, 0);
        due("INTEGER -2^62 in ten bytes", -2, 7, 128, 128, 128, 128, 128, 128, 128, 128, 192, 127);
        due("INTEGER -2^62 - 1 in ten bytes", 0, 7, 255, 255, 255, 255, 255, 255, 255, 255, 191, 127);
    }

    private static void numbersThatCannotBe() {
        due("VARIABLE 0", -3, 1, 0, 0);
        due("VARIABLE 201", -3, 1, 0, 201, 1);
        due("BUILTIN 32", -3, 6, 32);
        due("TRUTH 2", -3, 9, 2);
        due("BYTES 65", -3, 8, 65);
    }

    private static void notBound() {
        due("not bound, and the TAPE ends", -4, 2, 0, 1);
        due("not bound before what follows", -4, 2, 0, 1, 12);
        due("bound by none but the second LAMBDA", 0, 1, 1, 0, 2);
        due("bound by none", -4, 1, 1, 0, 3);
    }

    private static void bytesEnd() {
        due("BYTES 1, none there", -1, 8, 1);
        due("BYTES 2, one there", -1, 8, 2, 1);
        byte[] row = Term.ss(64).encode();
        due("BYTES 64, 63 there", -1, Bench.without(row, 1));
        due("BYTES 64, none there", -1, Bench.without(row, 64));
        due("BYTES 64, all there", 0, row);
    }

    private static void orderOfFaults() {
        due("VARIABLE 0 is 3, not 4", -3, 0, 0);
        due("VARIABLE 201 is 3, not 4", -3, 0, 201, 1);
        due("not as few bytes before not bound", -2, 0, 133, 0);
        due("not as few bytes before what can't be there", -2, 0, 128, 0);
        due("too large before what can't be there", -2, 0, 128, 128, 128, 128, 8);
        due("BYTES 65 before their end", -3, 8, 65, 1);
        due("the first NODE with a fault", -3, 2, 9, 2, 0, 1);
        due("the function before the argument", -4, 2, 0, 1, 9, 2);
        due("the argument behind a good function", -3, 2, 9, 1, 9, 2);
    }

    private static void emptyTape() {
        due("an empty TAPE", -1);
        Bench bench = used();
        Check.due("a new object", new Bench(1).x.registerScript(), -1);
        bench.x.registerScript();
        Check.due("twice", bench.x.registerScript(), -1);
        due("fault 1", -1, 1);
        due("fault 2", -2, 7, 128, 0);
        due("fault 3", -3, 12);
        due("fault 4", -4, 0, 1);
        due("fault 5", nested(2, 60), -5);
        due("fault 6", broad(201), -6);
    }

    private static void bytesLeft() {
        due("a byte left", -7, 5, 5);
        due("a byte that is no kind left", -7, 5, 255);
        due("a whole TERM left", -7, 9, 1, 9, 1);
        due("191 NODES and a byte left", -7, Bench.join(broad(191).encode(), new byte[1]));
        due("200 NODES and a byte left", -7, Bench.join(Term.delay(broad(199)).encode(), new byte[1]));
    }

    private static void mostNodes() {
        due("189 NODES", broad(189), 0);
        due("190 NODES", Term.delay(broad(189)), 0);
        due("191 NODES", broad(191), -8);
        due("192 NODES", Term.delay(broad(191)), -8);
        due("199 NODES", broad(199), -8);
        due("200 NODES", Term.delay(broad(199)), -8);
    }

    /** Of DEPTH 60, too: what it comes to is told by its last NODE, the argument of its outermost let. */
    private static Term largest(int lambdas) {
        int lets = (59 - lambdas) / 2;
        Term term = Term.v(lets);
        for (int k = 1; k <= lets; k++) {
            Term argument = k == lets ? Term.t(1) : Term.unit();
            if (k == lets - 1) {
                // It is not EVALUATED, but for its first NODE: 190 in all.
                int rest = 190 - lambdas - 3 * lets;
                argument = rest % 2 == 0 ? Term.delay(broad(rest - 1)) : Term.delay(Term.delay(broad(rest - 2)));
            }
            term = Term.app(Term.lam(term), argument);
        }
        return Term.lams(lambdas, term);
    }

    private static void largestScriptRuns() {
        for (int lambdas = 2; lambdas <= 3; lambdas++) {
            Term script = largest(lambdas);
            Check.due("NODES", script.nodes(), 190);
            Check.due("DEPTH is near 60", script.depth() >= 59, true);
            Bench bench = lambdas == 2 ? Lab.runScript(script, Data.i(0)) : Lab.runInput(script, Data.i(0), Data.i(0));
            bench.dueLatest("it runs", 0, -1, 1, 0);
            Check.due("its NODES", bench.x.scriptOf(0, 0), 190);
            Check.due("its DEPTH", bench.x.scriptOf(0, 1), script.depth());
        }
    }

    private static Bench full() {
        Bench bench = new Bench(1).endow(1, 1, 100);
        for (int k = 0; k < 32; k++) {
            Check.due("registerScript()", bench.register(Term.i(k)), k);
        }
        return bench;
    }

    private static void mostScripts() {
        Refused.dueScript("a 33rd", Promise05Test::full, Term.i(1).encode(), -9);
        Refused.dueScript("a 33rd of 190 NODES", Promise05Test::full, Term.delay(broad(189)).encode(), -9);
        Refused.dueScript("a 33rd that is too large", Promise05Test::full, broad(191).encode(), -8);
        Refused.dueScript("a 33rd with bytes left", Promise05Test::full, Data.b(9, 1, 9).bytes(), -7);
        Refused.dueScript("a 33rd with a fault", Promise05Test::full, Data.b(9, 2).bytes(), -3);
        Refused.dueScript("a 33rd that is empty", Promise05Test::full, new byte[0], -1);
    }

    private static void numbersOfScripts() {
        Bench bench = full();
        bench.dueLook("SCRIPTS", 5, 32);
        for (int script : new int[] {0, 1, 31}) {
            Check.due("scriptOf(" + script + ", 2)", bench.x.scriptOf(script, 2), 2);
        }
        Check.due("scriptOf(32, 0)", bench.x.scriptOf(32, 0), -1);
        Check.due("ownedBy(256 + 32, 0)", bench.x.ownedBy(288, 0), -1);
        bench = new Bench(1);
        IntFunction<Term> some = k -> nested(k % 3, (7 * k + 20) % 40);
        for (int k = 0; k < 10; k++) {
            // What is refused in between takes no number.
            Check.due("a fault", bench.register(2, 9, 2), -3);
            Check.due("registerScript()", bench.register(some.apply(k)), k);
        }
        for (int k = 0; k < 10; k++) {
            Check.due("NODES of SCRIPT " + k, bench.x.scriptOf(k, 0), some.apply(k).nodes());
            Check.due("DEPTH of SCRIPT " + k, bench.x.scriptOf(k, 1), some.apply(k).depth());
            Check.due("bytes of SCRIPT " + k, bench.x.scriptOf(k, 2), some.apply(k).encode().length);
        }
    }

    /** What a fault leaves behind is not seen by what comes then. */
    private static void nothingIsKept() {
        byte[][] faults = {{}, {2, 2, 2, 5}, {1, 1, 2, 7, (byte) 128, 0}, {2, 2, 12}, {1, 1, 2, 0, 3}, nested(3, 60).encode(),
            broad(201).encode(), {5, 5, 5, 5}, broad(191).encode()};
        int[] wants = {-1, -1, -2, -3, -4, -5, -6, -7, -8};
        for (int k = 0; k < faults.length; k++) {
            Bench bench = new Bench(1);
            bench.give(faults[k]);
            Check.due("a fault", bench.x.registerScript(), wants[k]);
            bench.dueLook("the TAPE", 6, 0);
            Check.due("VARIABLE 1 is not bound", bench.register(0, 1), -4);
            Check.due("a TERM behind " + wants[k], bench.register(2, 1, 0, 1, 9, 1), 0);
            Check.due("its NODES", bench.x.scriptOf(0, 0), 4);
            Check.due("its DEPTH", bench.x.scriptOf(0, 1), 3);
            Check.due("a TERM without a byte", bench.register(2, 5), -1);
            Check.due("endowOwner() is not over", bench.x.endowOwner(1, 5), 0);
        }
    }
}
