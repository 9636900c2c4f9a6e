import java.util.Random;

/**
 * Behind the 512th call of an object any answer will do, but by LANGUAGE.md no call throws by itself, in any state:
 * with a full TAPE, 1024 OUTPUTS, 32 SCRIPTS and more than these.
 */
public final class LaterCallsTest {
    private static final int CALLS = 4000;
    private static final int[] EDGES = {0, 1, 2, -1, 7, 8, 9, 31, 32, 64, 255, 256, 287, 288, 511, 512, 1023, 1024, 1025,
        4095, 4096, 4097, Integer.MAX_VALUE, Integer.MIN_VALUE};

    private final Random random;
    private final Random0 maker;
    private final CoinScripts x;
    private String call = "";

    private LaterCallsTest(long seed) {
        random = new Random(seed);
        maker = new Random0(random);
        x = new CoinScripts(64);
    }

    public static void main(String[] args) {
        Edge.of("what later calls answer is free", () -> {
            for (int seed = 1; seed <= 12; seed++) {
                new LaterCallsTest(seed).goBeyond(seed);
            }
        });
        Check.end();
    }

    private void goBeyond(int seed) {
        try {
            fill(seed % 4);
            for (int k = 0; k < CALLS; k++) {
                anyCall();
            }
            Check.due("calls that threw", 0, 0);
        } catch (RuntimeException e) {
            Check.due(call + " threw " + e.getClass().getName(), true, false);
        }
    }

    private void fill(int what) {
        int many = what == 0 ? 10000 : 1000 + random.nextInt(100);
        call = "filling by " + what;
        for (int k = 0; k < many; k++) {
            switch (what) {
                case 0: x.giveTape(0x0101010101010101L * k, 8); break;
                case 1: x.endowOwner(1, 1000); break;
                case 2: register(Term.lams(3, Term.t(1))); break;
                default: x.closeBlock(); break;
            }
        }
        if (what == 1) {
            register(Term.lams(3, Term.t(1)));
        }
    }

    private void give(byte[] bytes) {
        for (byte b : bytes) {
            x.giveTape(b, 1);
        }
    }

    private void register(Term term) {
        call = "registerScript()";
        give(term.encode());
        x.registerScript();
    }

    private int edge() {
        return EDGES[random.nextInt(EDGES.length)];
    }

    private void submit() {
        call = "submitTape()";
        int number = random.nextInt(1100);
        Tx tx = new Tx().in(number).back(number + 1).fee(200).sign(1);
        for (int k = 0; k < 7; k++) {
            tx.pay(1, 100);
        }
        give(tx.payScript(0, 100, Data.i(7)).encode());
        x.submitTape();
    }

    private void anyCall() {
        int which = random.nextInt(40);
        call = "call " + which;
        switch (which) {
            case 0: x.wipeTape(); break;
            case 1: x.registerScript(); break;
            case 2: x.undoBlocks(random.nextInt(3)); break;
            case 3: x.undoBlocks(edge()); break;
            case 4: register(maker.script(3)); break;
            case 5: x.closeBlock(); break;
            case 6: x.submitTape(); break;
            case 7: case 8: case 9: case 10: submit(); break;
            case 11: case 12: x.endowOwner(edge(), edge()); break;
            case 13: case 14: x.outputOf(edge(), random.nextInt(8) - 1); break;
            case 15: case 16: coin(); break;
            case 17: case 18: x.datumOf(edge(), edge()); break;
            case 19: case 20: x.totalOf(edge(), edge()); break;
            case 21: case 22: x.ownedBy(edge(), edge()); break;
            case 23: case 24: x.latestOf(edge()); break;
            case 25: case 26: x.scriptOf(edge(), random.nextInt(6) - 1); break;
            case 27: case 28: x.lookAt(random.nextInt(14) - 1); break;
            default: x.giveTape(random.nextLong(), random.nextInt(12) - 2); break;
        }
    }

    private void coin() {
        try {
            x.coinOf(edge(), edge(), random.nextInt(5) - 1);
        } catch (IndexOutOfBoundsException e) {
            Check.due("coinOf threw just that", e.getClass() == IndexOutOfBoundsException.class, true);
        }
    }
}
