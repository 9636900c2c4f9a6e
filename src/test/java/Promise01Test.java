/** Promise 1: a new object. */
public final class Promise01Test {
    public static void main(String[] args) {
        emptyAtFirst();
        depthIsKeptWithin();
        objectsAreApart();
        Check.end();
    }

    private static void emptyAtFirst() {
        CoinScripts x = new CoinScripts(2);
        for (int which = 0; which <= 10; which++) {
            Check.due("new: lookAt(" + which + ")", x.lookAt(which), 0);
        }
        for (int which = -1; which <= 8; which++) {
            Check.due("new: latestOf(" + which + ")", x.latestOf(which), -1);
        }
        Check.due("new: outputOf(0, 0)", x.outputOf(0, 0), -1);
        Check.due("new: datumOf(0, 0)", x.datumOf(0, 0), -1);
        Check.due("new: scriptOf(0, 0)", x.scriptOf(0, 0), -1);
        Check.due("new: ownedBy(0, 0)", x.ownedBy(0, 0), -1);
        Check.due("new: totalOf(0, 0)", x.totalOf(0, 0), 0);
        Check.due("new: undoBlocks(1)", x.undoBlocks(1), -1);
        Check.due("new: undoBlocks(0)", x.undoBlocks(0), 0);
    }

    private static void depthIsKeptWithin() {
        int[] depths = {Integer.MIN_VALUE, -1, 0, 1, 2, 63, 64, 65, 1000, Integer.MAX_VALUE};
        int[] wants = {1, 1, 1, 1, 2, 63, 64, 64, 64, 64};
        for (int k = 0; k < depths.length; k++) {
            CoinScripts x = new CoinScripts(depths[k]);
            for (int n = 1; n <= 70; n++) {
                Check.due("closeBlock()", x.closeBlock(), n);
                Check.due("depth " + depths[k] + ", closed " + n, x.lookAt(4), Math.min(n, wants[k]));
            }
            Check.due("undoBlocks of one too many", x.undoBlocks(wants[k] + 1), -1);
            Check.due("undoBlocks of all", x.undoBlocks(wants[k]), 70 - wants[k]);
            Check.due("none is left to undo", x.undoBlocks(1), -1);
        }
    }

    private static void objectsAreApart() {
        CoinScripts one = new CoinScripts(1);
        CoinScripts other = new CoinScripts(1);
        one.giveTape(0x0901, 2);
        one.registerScript();
        one.endowOwner(1, 5);
        one.giveTape(1, 1);
        for (int which = 0; which <= 10; which++) {
            Check.due("the other one: lookAt(" + which + ")", other.lookAt(which), 0);
        }
    }
}
