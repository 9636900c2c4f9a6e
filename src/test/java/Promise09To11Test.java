/** Promises 9, 10, 11: outputOf, coinOf, datumOf. */
public final class Promise09To11Test {
    public static void main(String[] args) {
        Bench bench = new Bench(2);
        bench.x.endowOwner(3, 1000);
        bench.x.endowOwner(4, 2000);
        bench.register(Term.lams(2, Term.t(1)));
        bench.register(Term.lams(2, Term.t(1)));
        bench.x.closeBlock();
        Data datum = Data.l(Data.b(0, 127, 128, 255), Data.i(-1));
        Tx tx = new Tx().in(0).back(1).mint(1, 5, 7).mint(1, -1, 1L << 62).mint(2, Long.MIN_VALUE, 9)
                .redeem(1, Data.i(0)).redeem(2, Data.i(0)).fee(100).sign(3, 4)
                .pay(Tx.script(1), Tx.value(0, 0, 800, 1, 5, 7, 1, -1, 1L << 62, 2, Long.MIN_VALUE, 9), datum)
                .pay(Tx.owner(255), Tx.value(0, 0, 100), Data.i(5));
        Check.due("submitTape()", bench.submit(tx), 0);
        bench.x.closeBlock();
        outputs(bench);
        coins(bench);
        data(bench, datum);
        Check.end();
    }

    private static void outputs(Bench bench) {
        int[][] wants = {{3, 0, 0, 1, 1, 1}, {4, 1, 0, -1, 1, 1}, {257, 1, 1, -1, 4, 7}, {255, 1, 1, -1, 1, 1}};
        for (int number = 0; number < 4; number++) {
            for (int what = 0; what < 6; what++) {
                Check.due("outputOf(" + number + ", " + what + ")", bench.x.outputOf(number, what), wants[number][what]);
            }
            for (int what : new int[] {Integer.MIN_VALUE, -1, 6, 7, Integer.MAX_VALUE}) {
                Check.due("outputOf(" + number + ", " + what + ")", bench.x.outputOf(number, what), -1);
            }
        }
        for (int number : new int[] {Integer.MIN_VALUE, -1, 4, 5, 1023, 1024, 1025, Integer.MAX_VALUE}) {
            for (int what = -1; what < 7; what++) {
                Check.due("outputOf(" + number + ", " + what + ")", bench.x.outputOf(number, what), -1);
            }
        }
    }

    private static void coins(Bench bench) {
        long[][] wants = {{0, 0, 800}, {1, 5, 7}, {1, -1, 1L << 62}, {2, Long.MIN_VALUE, 9}};
        for (int i = 0; i < 4; i++) {
            for (int what = 0; what < 3; what++) {
                Check.due("coinOf(2, " + i + ", " + what + ")", bench.x.coinOf(2, i, what), wants[i][what]);
            }
            for (int what : new int[] {Integer.MIN_VALUE, -1, 3, Integer.MAX_VALUE}) {
                Check.due("coinOf(2, " + i + ", " + what + ") throws", bench.coinThrows(2, i, what), true);
            }
        }
        for (int i : new int[] {Integer.MIN_VALUE, -1, 4, 8, Integer.MAX_VALUE}) {
            Check.due("coinOf(2, " + i + ", 0) throws", bench.coinThrows(2, i, 0), true);
        }
        Check.due("coinOf(0, 0, 2) of what is spent", bench.x.coinOf(0, 0, 2), 1000);
        Check.due("coinOf(0, 1, 0) throws", bench.coinThrows(0, 1, 0), true);
        for (int number : new int[] {Integer.MIN_VALUE, -1, 4, 1024, Integer.MAX_VALUE}) {
            Check.due("coinOf(" + number + ", 0, 0) throws", bench.coinThrows(number, 0, 0), true);
        }
    }

    private static void data(Bench bench, Data datum) {
        byte[] row = datum.encode();
        for (int k = 0; k < row.length; k++) {
            Check.due("datumOf(2, " + k + ")", bench.x.datumOf(2, k), row[k] & 255);
        }
        Check.due("datumOf(3, 0)", bench.x.datumOf(3, 0), 5);
        Check.due("datumOf(0, 0)", bench.x.datumOf(0, 0), 0);
        for (int k : new int[] {Integer.MIN_VALUE, -1, row.length, 128, 4096, Integer.MAX_VALUE}) {
            Check.due("datumOf(2, " + k + ")", bench.x.datumOf(2, k), -1);
        }
        for (int number : new int[] {Integer.MIN_VALUE, -1, 4, 1024, Integer.MAX_VALUE}) {
            Check.due("datumOf(" + number + ", 0)", bench.x.datumOf(number, 0), -1);
        }
    }
}
