/** Promise 1: a new object. */
public final class Promise01Test {
    public static void main(String[] args) {
        Edge.of("No SCRIPTS, no OUTPUTS", Promise01Test::emptyAtFirst);
        Edge.of("up to depth closed blocks can be undone, 1 .. 64", Promise01Test::depth);
        Edge.of("(others count as the nearest of these)", Promise01Test::depthOutside);
        objectsAreApart();
        Check.end();
    }

    private static void emptyAtFirst() {
        Bench bench = new Bench(2);
        for (int which = 0; which <= 10; which++) {
            bench.dueLook("new", which, 0);
        }
        for (int which = -1; which <= 8; which++) {
            Check.due("new: latestOf(" + which + ")", bench.x.latestOf(which), -1);
        }
        for (int what = -1; what <= 6; what++) {
            Check.due("new: outputOf(0, " + what + ")", bench.x.outputOf(0, what), -1);
            Check.due("new: scriptOf(0, " + what + ")", bench.x.scriptOf(0, what), -1);
        }
        Check.due("new: coinOf(0, 0, 0) throws", bench.coinThrows(0, 0, 0), true);
        Check.due("new: datumOf(0, 0)", bench.x.datumOf(0, 0), -1);
        Check.due("new: ownedBy(0, 0)", bench.x.ownedBy(0, 0), -1);
        Check.due("new: ownedBy(256, 0)", bench.x.ownedBy(256, 0), -1);
        Check.due("new: totalOf(0, 0)", bench.x.totalOf(0, 0), 0);
        Check.due("new: totalOf(1, 0)", bench.x.totalOf(1, 0), 0);
        Check.due("new: undoBlocks(1)", bench.x.undoBlocks(1), -1);
        Check.due("new: undoBlocks(0)", bench.x.undoBlocks(0), 0);
    }

    /** So many of 70 closed blocks can be undone, at once or one by one. */
    private static void due(int depth, int want) {
        Bench bench = new Bench(depth);
        Bench other = new Bench(depth);
        for (int n = 1; n <= 70; n++) {
            Check.due("closeBlock()", bench.x.closeBlock(), n);
            bench.dueLook("depth " + depth + ", closed " + n, 4, Math.min(n, want));
            other.x.closeBlock();
        }
        Check.due("depth " + depth + ", one too many", bench.x.undoBlocks(want + 1), -1);
        Check.due("depth " + depth + ", all at once", bench.x.undoBlocks(want), 70 - want);
        Check.due("depth " + depth + ", none is left", bench.x.undoBlocks(1), -1);
        for (int n = 1; n <= want; n++) {
            Check.due("depth " + depth + ", one by one", other.x.undoBlocks(1), 70 - n);
        }
        Check.due("depth " + depth + ", none is left", other.x.undoBlocks(1), -1);
    }

    private static void depth() {
        for (int depth : new int[] {1, 2, 3, 32, 63, 64}) {
            due(depth, depth);
        }
    }

    private static void depthOutside() {
        for (int depth : new int[] {0, -1, -64, Integer.MIN_VALUE}) {
            due(depth, 1);
        }
        for (int depth : new int[] {65, 66, 128, Integer.MAX_VALUE}) {
            due(depth, 64);
        }
    }

    private static void objectsAreApart() {
        Bench one = new Bench(1);
        Bench other = new Bench(1);
        one.register(9, 1);
        one.x.endowOwner(1, 5);
        one.give(1);
        for (int which = 0; which <= 10; which++) {
            other.dueLook("the other one", which, 0);
        }
    }
}
