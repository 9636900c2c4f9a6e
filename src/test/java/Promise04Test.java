/** Promise 4: endowOwner. */
public final class Promise04Test {
    private static final long MOST = 1L << 62;

    public static void main(String[] args) {
        whatIsMade();
        wrongArguments();
        mostBase();
        mostOutputs();
        isOver();
        Check.end();
    }

    private static void whatIsMade() {
        Bench bench = new Bench(1);
        int[] owners = {0, 255, 7};
        for (int k = 0; k < owners.length; k++) {
            Check.due("endowOwner", bench.x.endowOwner(owners[k], 2 + k), k);
            int[] wants = {owners[k], 1, 0, -1, 1, 1, -1};
            for (int what = 0; what < wants.length; what++) {
                Check.due("outputOf(" + k + ", " + what + ")", bench.x.outputOf(k, what), wants[what]);
            }
            Check.due("its POLICY", bench.x.coinOf(k, 0, 0), 0);
            Check.due("its NAME", bench.x.coinOf(k, 0, 1), 0);
            Check.due("its AMOUNT", bench.x.coinOf(k, 0, 2), 2 + k);
            Check.due("its DATUM", bench.x.datumOf(k, 0), 0);
            Check.due("no more of its DATUM", bench.x.datumOf(k, 1), -1);
        }
        bench.dueLook("OUTPUTS", 2, 3);
        bench.dueLook("LIVE ones", 3, 3);
        bench.dueLook("the POT", 0, 0);
        Check.due("totalOf(0, 0)", bench.x.totalOf(0, 0), 9);
    }

    private static void wrongArguments() {
        Bench bench = new Bench(1);
        for (int owner : new int[] {Integer.MIN_VALUE, -1, 256, 512, Integer.MAX_VALUE}) {
            Check.due("endowOwner(" + owner + ", 5)", bench.x.endowOwner(owner, 5), -1);
        }
        for (long amount : new long[] {Long.MIN_VALUE, -2, -1, 0, 1, MOST + 1, Long.MAX_VALUE}) {
            Check.due("endowOwner(1, " + amount + ")", bench.x.endowOwner(1, amount), -1);
        }
        bench.dueLook("nothing was made", 2, 0);
        Check.due("endowOwner(1, 2)", bench.x.endowOwner(1, 2), 0);
    }

    private static void mostBase() {
        Bench bench = new Bench(1);
        Check.due("endowOwner(1, 2^62)", bench.x.endowOwner(1, MOST), 0);
        Check.due("endowOwner(1, 2) above that", bench.x.endowOwner(1, 2), -1);
        bench = new Bench(1);
        Check.due("endowOwner(1, 2^62 - 4)", bench.x.endowOwner(1, MOST - 4), 0);
        Check.due("endowOwner(1, 5)", bench.x.endowOwner(1, 5), -1);
        Check.due("endowOwner(1, 2^62)", bench.x.endowOwner(1, MOST), -1);
        Check.due("endowOwner(1, 2)", bench.x.endowOwner(1, 2), 1);
        Check.due("endowOwner(1, 3)", bench.x.endowOwner(1, 3), -1);
        Check.due("endowOwner(1, 2)", bench.x.endowOwner(1, 2), 2);
        Check.due("totalOf(0, 0)", bench.x.totalOf(0, 0), MOST);
    }

    private static void mostOutputs() {
        Bench bench = new Bench(1);
        for (int k = 0; k < 1024; k++) {
            Check.due("endowOwner(1, 100)", bench.x.endowOwner(1, 100), k);
        }
        Check.due("endowOwner of one too many", bench.x.endowOwner(1, 100), -1);
        Check.due("outputOf(1023, 0)", bench.x.outputOf(1023, 0), 1);
        Check.due("outputOf(1024, 0)", bench.x.outputOf(1024, 0), -1);
        Check.due("datumOf(1024, 0)", bench.x.datumOf(1024, 0), -1);
        Check.due("coinOf(1024, 0, 0) throws", bench.coinThrows(1024, 0, 0), true);
        Check.due("ownedBy(1, 1023)", bench.x.ownedBy(1, 1023), 1023);
        Check.due("ownedBy(1, 1024)", bench.x.ownedBy(1, 1024), -1);
        Check.due("an INPUT 1024", bench.submit(new Tx().in(1024).fee(100).sign(1)), 8);
        bench.dueLook("OUTPUTS", 2, 1024);
        Check.due("a transaction that makes one more", bench.submit(
                new Tx().in(0).pay(1, 50).fee(50).sign(1)), 15);
        Check.due("one that makes none", bench.submit(new Tx().in(0).fee(100).sign(1)), 0);
        bench.dueLook("OUTPUTS", 2, 1024);
        bench.dueLook("LIVE ones", 3, 1023);
    }

    private static void isOver() {
        Bench bench = new Bench(1);
        bench.register(9, 1);
        bench.x.registerScript();
        bench.give(1, 2, 3);
        bench.x.lookAt(0);
        Check.due("not over by scripts", bench.x.endowOwner(1, 5), 0);
        bench.x.submitTape();
        Check.due("over by submitTape()", bench.x.endowOwner(1, 5), -1);
        bench = new Bench(1);
        bench.x.closeBlock();
        Check.due("over by closeBlock()", bench.x.endowOwner(1, 5), -1);
        for (int n : new int[] {0, 1, -1, 100}) {
            bench = new Bench(1);
            bench.x.undoBlocks(n);
            Check.due("over by undoBlocks(" + n + ")", bench.x.endowOwner(1, 5), -1);
        }
    }
}
