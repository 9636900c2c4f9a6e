import java.math.BigInteger;
import java.io.ByteArrayOutputStream;

/** Promise 5: registerScript. */
public final class Promise05Test {
    public static void main(String[] args) {
        kinds();
        endsAnywhere();
        unsignedNumbers();
        signedNumbers();
        numbersThatCannotBe();
        bound();
        depth();
        nodes();
        bytesLeft();
        mostScripts();
        orderOfFaults();
        Check.end();
    }

    private static void due(String what, int want, int... bytes) {
        Bench bench = new Bench(1);
        Check.due(what, bench.register(bytes), want);
        bench.dueLook(what + ", the TAPE", 6, 0);
        bench.dueLook(what + ", SCRIPTS", 5, want >= 0 ? 1 : 0);
        Check.due(what + ", its bytes", bench.x.scriptOf(0, 2), want >= 0 ? bytes.length : -1);
    }

    private static void due(String what, Term term, int want) {
        Bench bench = new Bench(1);
        Check.due(what, bench.register(term), want);
        Check.due(what + ", its NODES", bench.x.scriptOf(0, 0), want >= 0 ? term.nodes() : -1);
        Check.due(what + ", its DEPTH", bench.x.scriptOf(0, 1), want >= 0 ? term.depth() : -1);
        Check.due(what + ", its bytes", bench.x.scriptOf(0, 2), want >= 0 ? term.encode().length : -1);
        Check.due(what + ", its runs", bench.x.scriptOf(0, 3), want >= 0 ? 0 : -1);
    }

    private static void kinds() {
        due("LAMBDA VARIABLE 1", 0, 1, 0, 1);
        due("APPLY", 0, 2, 10, 11);
        due("DELAY", 0, 3, 5);
        due("FORCE", 0, 4, 5);
        due("ERROR", 0, 5);
        due("BUILTIN 0", 0, 6, 0);
        due("BUILTIN 31", 0, 6, 31);
        due("INTEGER 0", 0, 7, 0);
        due("BYTES none", 0, 8, 0);
        due("BYTES three", 0, 8, 3, 255, 0, 128);
        due("TRUTH 0", 0, 9, 0);
        due("TRUTH 1", 0, 9, 1);
        due("UNIT", 0, 10);
        due("EMPTY", 0, 11);
        due("BYTES 64", Term.ss(64), 0);
        for (int kind : new int[] {12, 13, 64, 127, 128, 255}) {
            due("kind " + kind, -3, kind);
            due("kind " + kind + " within", -3, 1, kind);
        }
    }

    private static void endsAnywhere() {
        Term term = Term.lam(Term.app(Term.fn(13, Term.i(1000), Term.v(1), Term.s(1, 2, 3)), Term.force(Term.t(1))));
        byte[] all = term.encode();
        due("all of it", term, 0);
        for (int last = 1; last <= all.length; last++) {
            Bench bench = new Bench(1);
            bench.give(Bench.without(all, last));
            Check.due("without the last " + last, bench.x.registerScript(), -1);
        }
    }

    private static void unsignedNumbers() {
        due("VARIABLE 1 in two bytes", -2, 1, 0, 129, 0);
        due("VARIABLE 0 in two bytes", -2, 1, 0, 128, 0);
        due("VARIABLE 127 in two bytes", -2, 1, 0, 255, 0);
        due("VARIABLE 128 is not bound", -4, 1, 0, 128, 1);
        due("VARIABLE 200 is not bound", -4, 1, 0, 200, 1);
        due("VARIABLE 201", -3, 1, 0, 201, 1);
        due("VARIABLE 2^31 - 1", -3, 1, 0, 255, 255, 255, 255, 7);
        due("VARIABLE 2^31", -2, 1, 0, 128, 128, 128, 128, 8);
        due("VARIABLE in a fifth byte with 128", -2, 1, 0, 129, 128, 128, 128, 128, 0);
        due("VARIABLE in a fifth byte with 128, at the end", -2, 1, 0, 129, 128, 128, 128, 128);
        due("VARIABLE in five bytes, the last 0", -2, 1, 0, 129, 128, 128, 128, 0);
        due("VARIABLE, the tape ends", -1, 1, 0, 129, 128, 128, 128);
    }

    private static void signedNumbers() {
        long[] numbers = {0, 1, -1, 63, 64, -64, -65, 8191, 8192, -8192, -8193, Integer.MAX_VALUE, Integer.MIN_VALUE,
            1L << 62, (1L << 62) - 1, -(1L << 62), -(1L << 62) - 1, Long.MAX_VALUE, Long.MIN_VALUE};
        for (long number : numbers) {
            due("INTEGER " + number, Term.i(number), 0);
        }
        due("INTEGER 0 in two bytes", -2, 7, 128, 0);
        due("INTEGER -1 in two bytes", -2, 7, 255, 127);
        due("INTEGER 63 in two bytes", -2, 7, 191, 0);
        due("INTEGER 64 in two bytes", 0, 7, 192, 0);
        due("INTEGER -64 in two bytes", -2, 7, 192, 127);
        due("INTEGER -65 in two bytes", 0, 7, 191, 127);
        due("2^63 - 1", 0, 7, 255, 255, 255, 255, 255, 255, 255, 255, 255, 0);
        due("-2^63", 0, 7, 128, 128, 128, 128, 128, 128, 128, 128, 128, 127);
        due("a tenth byte 1", -2, 7, 128, 128, 128, 128, 128, 128, 128, 128, 128, 1);
        due("a tenth byte 63", -2, 7, 128, 128, 128, 128, 128, 128, 128, 128, 128, 63);
        due("a tenth byte 64", -2, 7, 128, 128, 128, 128, 128, 128, 128, 128, 128, 64);
        due("a tenth byte 126", -2, 7, 128, 128, 128, 128, 128, 128, 128, 128, 128, 126);
        due("a tenth byte 0 that is not needed", -2, 7, 128, 128, 128, 128, 128, 128, 128, 128, 128, 0);
        due("a tenth byte 127 that is not needed", -2, 7, 255, 255, 255, 255, 255, 255, 255, 255, 255, 127);
        due("a tenth byte with 128", -2, 7, 128, 128, 128, 128, 128, 128, 128, 128, 128, 128, 0);
        due("nine bytes and the end", -1, 7, 128, 128, 128, 128, 128, 128, 128, 128, 128);
        for (BigInteger number : new BigInteger[] {BigInteger.TWO.pow(63),
            BigInteger.TWO.pow(63).negate().subtract(BigInteger.ONE)}) {
            ByteArrayOutputStream out = new ByteArrayOutputStream();
            out.write(7);
            Term.signed(out, number);
            Check.due(number + " is no long", new Bench(1).give(out.toByteArray()).x.registerScript(), -2);
        }
    }

    private static void numbersThatCannotBe() {
        due("VARIABLE 0", -3, 1, 0, 0);
        due("BUILTIN 32", -3, 6, 32);
        due("BUILTIN 255", -3, 6, 255);
        due("TRUTH 2", -3, 9, 2);
        due("TRUTH 255", -3, 9, 255);
        due("BYTES 65", -3, 8, 65);
        due("BYTES 255", -3, 8, 255);
    }

    private static void bound() {
        due("VARIABLE 1 outside", -4, 0, 1);
        due("VARIABLE 2 of one LAMBDA", -4, 1, 0, 2);
        due("VARIABLE 2 of two LAMBDAS", 0, 1, 1, 0, 2);
        due("VARIABLE behind a LAMBDA", -4, 2, 1, 0, 1, 0, 1);
        due("VARIABLE in both parts", 0, 1, 2, 0, 1, 0, 1);
        due("VARIABLE 58 of 58 LAMBDAS", Term.lams(58, Term.v(58)), 0);
        due("VARIABLE 59 of 58 LAMBDAS", Term.lams(58, Term.v(59)), -4);
        due("in an argument the LAMBDAS of the function do not count", -4, 1, 2, 1, 1, 0, 3, 0, 2);
    }

    private static Term forces(int many, Term term) {
        return many == 0 ? term : Term.force(forces(many - 1, term));
    }

    private static void depth() {
        due("DEPTH 60", forces(59, Term.unit()), 0);
        due("DEPTH 61", forces(60, Term.unit()), -5);
        due("DEPTH 60 of APPLYS", leftApplies(59), 0);
        due("DEPTH 61 of APPLYS", leftApplies(60), -5);
        due("DEPTH 60 on the right", rightApplies(59), 0);
        due("DEPTH 61 on the right", rightApplies(60), -5);
        byte[] row = new byte[61];
        java.util.Arrays.fill(row, (byte) 4);
        row[60] = 12;
        Check.due("a kind that is none at DEPTH 61", new Bench(1).give(row).x.registerScript(), -3);
        Check.due("the end at DEPTH 61", new Bench(1).give(Bench.without(row, 1)).x.registerScript(), -1);
    }

    private static Term leftApplies(int many) {
        return many == 0 ? Term.unit() : Term.app(leftApplies(many - 1), Term.unit());
    }

    private static Term rightApplies(int many) {
        return many == 0 ? Term.unit() : Term.app(Term.unit(), rightApplies(many - 1));
    }

    /** A term with so many NODES, an odd number of them, that is not deep. */
    private static Term broad(int nodes) {
        if (nodes <= 1) {
            return Term.unit();
        }
        int half = (nodes - 1) / 2;
        int left = half % 2 == 0 ? half - 1 : half;
        return Term.app(broad(left), broad(nodes - 1 - left));
    }

    private static void nodes() {
        due("189 NODES", broad(189), 0);
        due("190 NODES", Term.delay(broad(189)), 0);
        due("191 NODES", broad(191), -8);
        due("200 NODES", Term.delay(broad(199)), -8);
        due("201 NODES", broad(201), -6);
        byte[] row = broad(201).encode();
        row[200] = 12;
        Check.due("the 201st is none", new Bench(1).give(row).x.registerScript(), -3);
        Check.due("the end at the 201st", new Bench(1).give(Bench.without(row, 1)).x.registerScript(), -1);
        byte[] longer = Bench.join(Term.delay(broad(199)).encode(), new byte[1]);
        Check.due("200 NODES and a byte left", new Bench(1).give(longer).x.registerScript(), -7);
    }

    private static void bytesLeft() {
        due("a byte left", -7, 5, 5);
        due("a whole TERM left", -7, 9, 1, 9, 1);
    }

    private static void mostScripts() {
        Bench bench = new Bench(1);
        for (int k = 0; k < 32; k++) {
            Check.due("registerScript()", bench.register(Term.i(k)), k);
        }
        Check.due("a 33rd", bench.register(Term.i(1)), -9);
        bench.dueLook("SCRIPTS", 5, 32);
        Check.due("a 33rd that is too large", bench.register(broad(191)), -8);
        Check.due("a 33rd with bytes left", bench.register(9, 1, 9), -7);
        Check.due("a 33rd with a fault", bench.register(9, 2), -3);
        Check.due("an empty one", bench.x.registerScript(), -1);
        bench.dueLook("the TAPE", 6, 0);
        Check.due("too large with bytes left", bench.give(broad(191).encode()).register(1), -7);
    }

    private static void orderOfFaults() {
        due("VARIABLE 0 is 3, not 4", -3, 0, 0);
        due("too long before not bound", -2, 0, 133, 0);
        due("not bound before what is left", -4, 0, 1, 1, 1);
        due("BYTES end", -1, 8, 2, 1);
        due("BYTES without how many", -1, 8);
        due("BUILTIN without a number", -1, 6);
    }
}
