/** CoinScripts, with its calls counted: what an object answers behind its 512th call is free, so it is not asked. */
final class Face {
    static final int MOST_CALLS = 512;

    private final CoinScripts x;
    private int calls;

    Face(int depth) {
        x = new CoinScripts(depth);
    }

    int callsLeft() {
        return MOST_CALLS - calls;
    }

    private CoinScripts counted() {
        calls++;
        if (calls > MOST_CALLS) {
            Check.due("a test with an object's calls", calls, MOST_CALLS);
        }
        return x;
    }

    boolean giveTape(long v, int n) {
        return counted().giveTape(v, n);
    }

    void wipeTape() {
        counted().wipeTape();
    }

    int endowOwner(int owner, long amount) {
        return counted().endowOwner(owner, amount);
    }

    int registerScript() {
        return counted().registerScript();
    }

    int submitTape() {
        return counted().submitTape();
    }

    int closeBlock() {
        return counted().closeBlock();
    }

    int undoBlocks(int n) {
        return counted().undoBlocks(n);
    }

    int outputOf(int number, int what) {
        return counted().outputOf(number, what);
    }

    long coinOf(int number, int i, int what) {
        return counted().coinOf(number, i, what);
    }

    int datumOf(int number, int k) {
        return counted().datumOf(number, k);
    }

    long totalOf(int policy, long name) {
        return counted().totalOf(policy, name);
    }

    int ownedBy(int address, int i) {
        return counted().ownedBy(address, i);
    }

    int latestOf(int which) {
        return counted().latestOf(which);
    }

    int scriptOf(int script, int what) {
        return counted().scriptOf(script, what);
    }

    long lookAt(int which) {
        return counted().lookAt(which);
    }
}
