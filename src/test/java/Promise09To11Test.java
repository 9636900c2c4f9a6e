import java.util.function.ToLongFunction;

/** Promises 9, 10, 11: outputOf, coinOf, datumOf. */
public final class Promise09To11Test {
    private static final Data DATUM = Data.l(Data.b(0, 127, 128, 255), Data.i(-1));

    public static void main(String[] args) {
        Edge.of("what 0: its OWNER, or 256 + its SCRIPT, 1: 1 if it is LIVE, else 0, 2: HEIGHT when it was made, 3: when it was"
                + " spent (NONE while it is LIVE), 4: its KINDS, 5: bytes of its DATUM.", Promise09To11Test::outputs);
        Edge.of("NONE if there is none such, or no such what.", Promise09To11Test::noOutputs);
        Edge.of("Of the i-th KIND of an OUTPUT, from 0 on: what 0: POLICY, 1: NAME, 2: AMOUNT.", Promise09To11Test::coins);
        Edge.of("IndexOutOfBoundsException if there is no such OUTPUT, KIND or what.", Promise09To11Test::noCoins);
        Edge.of("Byte k of an OUTPUT's DATUM; NONE if there is none such.", Promise09To11Test::data);
        Edge.of("a VALUE, 1 to 8 KINDS with AMOUNTS 1 .. 2^62, and a DATUM, DATA of at most 128 bytes",
                Promise09To11Test::mostOfAll);
        Check.end();
    }

    /** OUTPUT 0 is spent at HEIGHT 1; 2 is of SCRIPT 1 and has four KINDS, 3 is of OWNER 255. */
    private static Bench bench() {
        Bench bench = new Bench(2).endow(1, 3, 1000).endow(1, 4, 2000);
        bench.register(Term.lams(2, Term.t(1)));
        bench.register(Term.lams(2, Term.t(1)));
        bench.x.closeBlock();
        Tx tx = new Tx().in(0).back(1).mint(1, 5, 7).mint(1, -1, 1L << 62).mint(2, Long.MIN_VALUE, 9)
                .redeem(1, Data.i(0)).redeem(2, Data.i(0)).fee(100).sign(3, 4)
                .pay(Tx.script(1), Tx.value(0, 0, 800, 1, 5, 7, 1, -1, 1L << 62, 2, Long.MIN_VALUE, 9), DATUM)
                .pay(Tx.owner(255), Tx.value(0, 0, 100), Data.i(5));
        bench.due("APPLIED", tx, 0);
        bench.x.closeBlock();
        return bench;
    }

    private static void outputs() {
        Bench bench = bench();
        int[][] wants = {{3, 0, 0, 1, 1, 1}, {4, 1, 0, -1, 1, 1}, {257, 1, 1, -1, 4, 7}, {255, 1, 1, -1, 1, 1}};
        for (int number = 0; number < 4; number++) {
            for (int what = 0; what < 6; what++) {
                Check.due("outputOf(" + number + ", " + what + ")", bench.x.outputOf(number, what), wants[number][what]);
            }
        }
        bench.due("OUTPUT 3 is spent", new Tx().in(3).fee(100).sign(255), 0);
        Check.due("spent at", bench.x.outputOf(3, 3), 2);
        Check.due("not LIVE", bench.x.outputOf(3, 1), 0);
        Check.due("made at", bench.x.outputOf(3, 2), 1);
    }

    private static void noOutputs() {
        for (int what : new int[] {Integer.MIN_VALUE, -1, 6, 7, Integer.MAX_VALUE}) {
            refused("outputOf(2, " + what + ")", bench -> bench.x.outputOf(2, what));
        }
        for (int number : new int[] {Integer.MIN_VALUE, -1, 4, 5, 1023, 1024, 1025, Integer.MAX_VALUE}) {
            Bench bench = bench();
            for (int what = -1; what < 7; what++) {
                Check.due("outputOf(" + number + ", " + what + ")", bench.x.outputOf(number, what), -1);
            }
            refused("outputOf(" + number + ", 0)", some -> some.x.outputOf(number, 0));
        }
    }

    private static void refused(String what, ToLongFunction<Bench> call) {
        Refused.due(what, Promise09To11Test::bench, call, -1);
    }

    private static void coins() {
        Bench bench = bench();
        long[][] wants = {{0, 0, 800}, {1, 5, 7}, {1, -1, 1L << 62}, {2, Long.MIN_VALUE, 9}};
        for (int i = 0; i < 4; i++) {
            for (int what = 0; what < 3; what++) {
                Check.due("coinOf(2, " + i + ", " + what + ")", bench.x.coinOf(2, i, what), wants[i][what]);
            }
        }
        Check.due("coinOf(0, 0, 2) of what is spent", bench.x.coinOf(0, 0, 2), 1000);
        Check.due("coinOf(3, 0, 2)", bench.x.coinOf(3, 0, 2), 100);
    }

    private static void noCoin(int number, int i, int what) {
        Refused.due("coinOf(" + number + ", " + i + ", " + what + ") throws", Promise09To11Test::bench,
                bench -> bench.coinThrows(number, i, what) ? 1 : 0, 1);
    }

    private static void noCoins() {
        for (int what : new int[] {Integer.MIN_VALUE, -1, 3, 4, Integer.MAX_VALUE}) {
            for (int i = 0; i < 4; i++) {
                noCoin(2, i, what);
            }
        }
        for (int i : new int[] {Integer.MIN_VALUE, -1, 4, 5, 7, 8, Integer.MAX_VALUE}) {
            noCoin(2, i, 0);
            noCoin(2, i, 2);
        }
        noCoin(0, 1, 0);
        noCoin(3, 1, 2);
        for (int number : new int[] {Integer.MIN_VALUE, -1, 4, 5, 1023, 1024, Integer.MAX_VALUE}) {
            noCoin(number, 0, 0);
            noCoin(number, -1, -1);
        }
    }

    private static void data() {
        Bench bench = bench();
        byte[] row = DATUM.encode();
        for (int k = 0; k < row.length; k++) {
            Check.due("datumOf(2, " + k + ")", bench.x.datumOf(2, k), row[k] & 255);
        }
        Check.due("datumOf(3, 0)", bench.x.datumOf(3, 0), 5);
        Check.due("datumOf(0, 0) of what is spent", bench.x.datumOf(0, 0), 0);
        for (int k : new int[] {Integer.MIN_VALUE, -1, row.length, row.length + 1, 128, 4096, Integer.MAX_VALUE}) {
            refused("datumOf(2, " + k + ")", some -> some.x.datumOf(2, k));
        }
        refused("datumOf(3, 1)", some -> some.x.datumOf(3, 1));
        for (int number : new int[] {Integer.MIN_VALUE, -1, 4, 5, 1023, 1024, Integer.MAX_VALUE}) {
            refused("datumOf(" + number + ", 0)", some -> some.x.datumOf(number, 0));
        }
    }

    private static void mostOfAll() {
        Bench bench = new Bench(1).endow(1, 1, (1L << 62) - 1000).endow(1, 1, 1000);
        bench.register(Term.lams(2, Term.t(1)));
        Tx tx = new Tx().in(0).back(1).fee(100).sign(1).redeem(1, Data.i(0));
        long[] value = new long[24];
        value[2] = (1L << 62) - 1100;
        for (int i = 1; i < 8; i++) {
            value[3 * i] = 1;
            value[3 * i + 1] = i < 4 ? i : Long.MIN_VALUE + i;
            value[3 * i + 2] = i % 2 == 0 ? 1 : 1L << 62;
            tx.mint(1, value[3 * i + 1], value[3 * i + 2]);
        }
        Data datum = Data.l(Data.bs(64), Data.bs(59));
        bench.due("8 KINDS, 128 bytes", tx.pay(Tx.owner(0), Tx.value(value), datum), 0);
        Check.due("its KINDS", bench.x.outputOf(2, 4), 8);
        Check.due("bytes of its DATUM", bench.x.outputOf(2, 5), 128);
        for (int k = 0; k < 24; k++) {
            Check.due("coinOf(2, " + k / 3 + ", " + k % 3 + ")", bench.x.coinOf(2, k / 3, k % 3), value[k]);
        }
        Check.due("coinOf(2, 8, 0) throws", bench.coinThrows(2, 8, 0), true);
        for (int k = 0; k < 128; k++) {
            Check.due("datumOf(2, " + k + ")", bench.x.datumOf(2, k), datum.encode()[k] & 255);
        }
        Check.due("datumOf(2, 128)", bench.x.datumOf(2, 128), -1);
    }
}
