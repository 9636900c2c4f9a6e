/** Promise 4: endowOwner. */
public final class Promise04Test {
    private static final long MOST = 1L << 62;

    public static void main(String[] args) {
        Edge.of("an OUTPUT of BASE of an OWNER, with the DATUM INTEGER 0: its NUMBER", Promise04Test::whatIsMade);
        Edge.of("NONE if submitTape(), closeBlock() or undoBlocks() was called before (whatever it answered)",
                Promise04Test::isOver);
        Edge.of("owner is none", Promise04Test::owners);
        Edge.of("amount is not 2 .. 2^62", Promise04Test::amounts);
        Edge.of("all BASE would be above 2^62", Promise04Test::mostBase);
        Edge.of("or 1024 OUTPUTS are made", Promise04Test::mostOutputs);
        Check.end();
    }

    private static void whatIsMade() {
        Bench bench = new Bench(1);
        int[] owners = {0, 255, 7};
        for (int k = 0; k < owners.length; k++) {
            Check.due("endowOwner", bench.x.endowOwner(owners[k], 2 + k), k);
            int[] wants = {owners[k], 1, 0, -1, 1, 1, -1};
            for (int what = 0; what < wants.length; what++) {
                Check.due("outputOf(" + k + ", " + what + ")", bench.x.outputOf(k, what), wants[what]);
            }
            Check.due("its POLICY", bench.x.coinOf(k, 0, 0), 0);
            Check.due("its NAME", bench.x.coinOf(k, 0, 1), 0);
            Check.due("its AMOUNT", bench.x.coinOf(k, 0, 2), 2 + k);
            Check.due("its DATUM", bench.x.datumOf(k, 0), 0);
            Check.due("no more of its DATUM", bench.x.datumOf(k, 1), -1);
        }
        bench.dueLook("OUTPUTS", 2, 3);
        bench.dueLook("LIVE ones", 3, 3);
        bench.dueLook("the POT", 0, 0);
        bench.dueLook("APPLIED", 7, 0);
        bench.dueLook("submitted", 9, 0);
        Check.due("totalOf(0, 0)", bench.x.totalOf(0, 0), 9);
    }

    private static Bench endowed() {
        Bench bench = new Bench(1).endow(2, 1, 1000);
        return bench.give(1, 2, 3);
    }

    private static void refused(int owner, long amount) {
        Refused.due("endowOwner(" + owner + ", " + amount + ")", Promise04Test::endowed,
                bench -> bench.x.endowOwner(owner, amount), -1);
        Bench bench = endowed();
        bench.x.endowOwner(owner, amount);
        Check.due("it is not over by that", bench.x.endowOwner(0, 2), 2);
    }

    private static void owners() {
        for (int owner : new int[] {-1, 256, 257, 512, Integer.MIN_VALUE, Integer.MAX_VALUE}) {
            refused(owner, 5);
        }
        for (int owner : new int[] {0, 1, 127, 128, 254, 255}) {
            Bench bench = endowed();
            Check.due("endowOwner(" + owner + ", 5)", bench.x.endowOwner(owner, 5), 2);
            Check.due("its OWNER", bench.x.outputOf(2, 0), owner);
        }
    }

    private static void amounts() {
        for (long amount : new long[] {1, 0, -1, -2, MOST + 1, Long.MIN_VALUE, Long.MAX_VALUE, (1L << 32) * -1}) {
            refused(1, amount);
        }
        Bench bench = new Bench(1);
        Check.due("endowOwner(1, 2^62 + 1)", bench.x.endowOwner(1, MOST + 1), -1);
        Check.due("endowOwner(1, 1)", bench.x.endowOwner(1, 1), -1);
        Check.due("endowOwner(1, 2)", bench.x.endowOwner(1, 2), 0);
        bench = new Bench(1);
        Check.due("endowOwner(1, 2^62)", bench.x.endowOwner(1, MOST), 0);
        Check.due("its AMOUNT", bench.x.coinOf(0, 0, 2), MOST);
    }

    private static void mostBase() {
        refused(1, MOST);
        refused(1, MOST - 1999);
        Check.due("2^62 in all", endowed().x.endowOwner(1, MOST - 2000), 2);
        Bench bench = new Bench(1);
        Check.due("endowOwner(1, 2^62)", bench.x.endowOwner(1, MOST), 0);
        Check.due("endowOwner(1, 2) above that", bench.x.endowOwner(1, 2), -1);
        Check.due("endowOwner(1, 2^62) above that", bench.x.endowOwner(1, MOST), -1);
        bench = new Bench(1);
        Check.due("endowOwner(1, 2^62 - 4)", bench.x.endowOwner(1, MOST - 4), 0);
        Check.due("endowOwner(2, 5)", bench.x.endowOwner(2, 5), -1);
        Check.due("endowOwner(2, 2)", bench.x.endowOwner(2, 2), 1);
        Check.due("endowOwner(2, 3)", bench.x.endowOwner(2, 3), -1);
        Check.due("endowOwner(3, 2)", bench.x.endowOwner(3, 2), 2);
        Check.due("endowOwner(4, 2)", bench.x.endowOwner(4, 2), -1);
        Check.due("totalOf(0, 0)", bench.x.totalOf(0, 0), MOST);
        bench.dueLook("OUTPUTS", 2, 3);
    }

    /** As many as come to be made within the calls that count. */
    private static void mostOutputs() {
        Bench bench = new Bench(1);
        for (int k = 0; k < 512; k++) {
            Check.due("endowOwner(1, 100)", bench.x.endowOwner(1, 100), k);
        }
        bench = new Bench(1).endow(503, 1, 100);
        bench.dueLook("OUTPUTS", 2, 503);
        Check.due("totalOf(0, 0)", bench.x.totalOf(0, 0), 50300);
        Check.due("outputOf(502, 0)", bench.x.outputOf(502, 0), 1);
        Check.due("outputOf(503, 0)", bench.x.outputOf(503, 0), -1);
        Check.due("datumOf(502, 0)", bench.x.datumOf(502, 0), 0);
        Check.due("datumOf(503, 0)", bench.x.datumOf(503, 0), -1);
        Check.due("coinOf(503, 0, 0) throws", bench.coinThrows(503, 0, 0), true);
        Check.due("ownedBy(1, 502)", bench.x.ownedBy(1, 502), 502);
        Check.due("ownedBy(1, 503)", bench.x.ownedBy(1, 503), -1);
    }

    private static void isOver() {
        Bench bench = new Bench(1);
        bench.register(9, 1);
        bench.x.registerScript();
        bench.give(1, 2, 3);
        bench.x.wipeTape();
        bench.x.lookAt(0);
        bench.coinThrows(0, 0, 0);
        Check.due("not over by other calls", bench.x.endowOwner(1, 5), 0);
        bench.x.submitTape();
        Check.due("over by submitTape() that answers 1", bench.x.endowOwner(1, 5), -1);
        bench = new Bench(1).endow(1, 1, 100);
        bench.due("APPLIED", new Tx().in(0).fee(100).sign(1), 0);
        Check.due("over by submitTape() that answers 0", bench.x.endowOwner(1, 5), -1);
        bench.x.undoBlocks(0);
        Check.due("over, also behind an undoing", bench.x.endowOwner(1, 5), -1);
        bench = new Bench(1);
        bench.x.closeBlock();
        Check.due("over by closeBlock()", bench.x.endowOwner(1, 5), -1);
        bench.x.undoBlocks(1);
        Check.due("over, also behind an undoing", bench.x.endowOwner(1, 5), -1);
        for (int n : new int[] {0, 1, -1, 100}) {
            bench = new Bench(1).endow(1, 1, 100);
            bench.x.undoBlocks(n);
            Check.due("over by undoBlocks(" + n + ")", bench.x.endowOwner(1, 5), -1);
            bench.dueLook("OUTPUTS", 2, 1);
        }
    }
}
