/** Promise 2: giveTape. */
public final class Promise02Test {
    public static void main(String[] args) {
        wrongNumbers();
        order();
        room();
        Check.end();
    }

    private static void wrongNumbers() {
        CoinScripts x = new CoinScripts(1);
        for (int n : new int[] {Integer.MIN_VALUE, -1, 0, 9, 16, 64, Integer.MAX_VALUE}) {
            Check.due("giveTape(5, " + n + ")", x.giveTape(5, n), false);
            Check.due("bytes behind that", x.lookAt(6), 0);
        }
        int all = 0;
        for (int n = 1; n <= 8; n++) {
            all += n;
            Check.due("giveTape(-1, " + n + ")", x.giveTape(-1, n), true);
            Check.due("bytes behind that", x.lookAt(6), all);
        }
    }

    /** The bytes can be seen in a DATUM that they come to. */
    private static void order() {
        for (int n = 1; n <= 8; n++) {
            Bench bench = new Bench(1);
            bench.x.endowOwner(1, 1000);
            byte[] tx = new Tx().in(0).pay(Tx.owner(1), Tx.value(0, 0, 900), Data.b(1, 2, 3, 4, 5, 6, 7, 0x88))
                    .fee(100).sign(1).encode();
            for (int at = 0; at < tx.length; at += n) {
                int many = Math.min(n, tx.length - at);
                long v = 0x7A7A7A7A7A7A7A7AL;
                for (int k = 0; k < many; k++) {
                    v = v << 8 | tx[at + k] & 255;
                }
                Check.due("giveTape", bench.x.giveTape(v, many), true);
            }
            Check.due("given by " + n + ": submitTape()", bench.x.submitTape(), 0);
            int[] datum = {0x48, 1, 2, 3, 4, 5, 6, 7, 0x88};
            for (int k = 0; k < datum.length; k++) {
                Check.due("given by " + n + ": datumOf(1, " + k + ")", bench.x.datumOf(1, k), datum[k]);
            }
        }
    }

    private static void room() {
        CoinScripts x = new CoinScripts(1);
        for (int k = 0; k < 511; k++) {
            Check.due("giveTape(0, 8)", x.giveTape(0, 8), true);
        }
        Check.due("giveTape(0, 1)", x.giveTape(0, 1), true);
        Check.due("giveTape(0, 8) with room for 7", x.giveTape(0, 8), false);
        Check.due("bytes behind that", x.lookAt(6), 4089);
        Check.due("giveTape(0, 7)", x.giveTape(0, 7), true);
        Check.due("bytes behind that", x.lookAt(6), 4096);
        Check.due("giveTape(0, 1) without room", x.giveTape(0, 1), false);
        x.wipeTape();
        Check.due("giveTape(0, 1) behind wipeTape()", x.giveTape(0, 1), true);
    }
}
