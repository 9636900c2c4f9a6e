import java.util.List;

/** Promise 6, VERDICTS 8 to 16, 0 and 20: what a TRANSACTION may do, and what it does. */
public final class Promise06JudgeTest {
    private static final long MOST = 1L << 62;
    private static final int ACCEPTS = 0;
    private static final int REFUSES = 1;
    private static final int MINTS = 2;

    public static void main(String[] args) {
        inputsAreLive();
        collateralIsLive();
        validity();
        leastFee();
        balance();
        mostOfAKind();
        signers();
        collateral();
        leastBase();
        mostOutputs();
        largestContext();
        orderOfVerdicts();
        applied();
        taken();
        severalScripts();
        Check.end();
    }

    /** OUTPUTS 0 .. 9: 1000 BASE of the OWNERS 0, 0, 1, 1, .. 4, 4; three SCRIPTS. */
    private static Bench bench() {
        Bench bench = new Bench(3);
        for (int k = 0; k < 10; k++) {
            bench.x.endowOwner(k / 2, 1000);
        }
        bench.register(Term.lams(3, Term.t(1)));
        bench.register(Term.lams(3, Term.t(0)));
        bench.register(Term.lams(2, Term.t(1)));
        return bench;
    }

    private static void due(Bench bench, String what, Tx tx, int want) {
        List<Long> before = bench.state();
        long pot = bench.x.lookAt(0);
        Check.due(what, bench.submit(tx), want);
        bench.dueLatest(what, want, -1);
        bench.dueLook(what + ", the TAPE", 6, 0);
        if (want != 0 && want != 20) {
            Check.due(what + ": nothing changes", bench.state().equals(before), true);
            bench.dueLatest(what, want, -1, 0, -1, -1, -1, -1, tx.encode().length);
        } else {
            Check.due(what + ": the POT grows", bench.x.lookAt(0) > pot, true);
        }
    }

    private static Tx good() {
        return new Tx().in(0).pay(9, 900).fee(100).sign(0);
    }

    private static void inputsAreLive() {
        Bench bench = bench();
        due(bench, "no such OUTPUT", new Tx().in(10).pay(9, 900).fee(100).sign(0), 8);
        due(bench, "NUMBER -1", new Tx().in(-1).pay(9, 900).fee(100).sign(0), 8);
        due(bench, "an INPUT twice", new Tx().in(0).in(0).pay(9, 1900).fee(100).sign(0), 8);
        due(bench, "an INPUT twice, not in turn", new Tx().in(0).in(1).in(0).pay(9, 1900).fee(100).sign(0), 8);
        due(bench, "LIVE", good(), 0);
        due(bench, "spent", good(), 8);
        due(bench, "what was made can be spent in the same block", new Tx().in(10).pay(9, 800).fee(100).sign(9), 0);
        due(bench, "made by itself", new Tx().in(1).in(12).pay(9, 900).fee(100).sign(0, 9), 8);
    }

    private static void collateralIsLive() {
        Bench bench = bench();
        due(bench, "no such COLLATERAL", good().back(10), 8);
        due(bench, "COLLATERAL twice", good().back(1).back(1), 8);
        due(bench, "COLLATERAL that is an INPUT", good().back(0), 8);
        due(bench, "COLLATERAL that nothing asks for", good().back(1), 0);
        Check.due("it stays LIVE", bench.x.outputOf(1, 1), 1);
        due(bench, "spent COLLATERAL", new Tx().in(1).back(0).pay(9, 900).fee(100).sign(0), 8);
    }

    private static void validity() {
        Bench bench = bench();
        long[][] wrong = {{1, 5}, {-5, -1}, {1, 0}, {1, -1}, {Long.MAX_VALUE, Long.MAX_VALUE},
            {Long.MIN_VALUE, Long.MIN_VALUE}, {Long.MAX_VALUE, Long.MIN_VALUE}};
        for (long[] pair : wrong) {
            due(bench, "VALIDITY " + pair[0] + ", " + pair[1], good().valid(pair[0], pair[1]), 9);
        }
        due(bench, "VALIDITY 0, 0", good().valid(0, 0), 0);
        bench = bench();
        bench.x.closeBlock();
        bench.x.closeBlock();
        due(bench, "HEIGHT 2, VALIDITY 0, 1", good().valid(0, 1), 9);
        due(bench, "HEIGHT 2, VALIDITY 3, 9", good().valid(3, 9), 9);
        due(bench, "HEIGHT 2, VALIDITY 2, 2", good().valid(2, 2), 0);
    }

    /** A TRANSACTION with so many bytes, by its REDEEMER. */
    private static Tx ofLength(int bytes, long fee) {
        for (int many = 0; many <= 64; many++) {
            Tx tx = new Tx().in(0, Data.bs(many)).pay(9, 1000 - fee).fee(fee).sign(0);
            if (tx.encode().length == bytes) {
                return tx;
            }
        }
        throw new IllegalStateException("no such length");
    }

    private static void leastFee() {
        due(bench(), "63 bytes, FEE 16", ofLength(63, 16), 10);
        due(bench(), "63 bytes, FEE 17", ofLength(63, 17), 0);
        due(bench(), "64 bytes, FEE 17", ofLength(64, 17), 10);
        due(bench(), "64 bytes, FEE 18", ofLength(64, 18), 0);
        due(bench(), "71 bytes, FEE 18", ofLength(71, 18), 0);
        due(bench(), "72 bytes, FEE 18", ofLength(72, 18), 10);
    }

    private static void balance() {
        Bench bench = bench();
        due(bench, "one too much", new Tx().in(0).pay(9, 901).fee(100).sign(0), 11);
        due(bench, "one too few", new Tx().in(0).pay(9, 899).fee(100).sign(0), 11);
        due(bench, "no OUTPUT", new Tx().in(0).fee(100).sign(0), 11);
        due(bench, "2^62 twice is no sum", new Tx().in(0).pay(9, MOST).pay(9, MOST).fee(100).sign(0), 11);
        Tx tx = new Tx().in(0).fee(MOST).sign(0);
        for (int k = 0; k < 8; k++) {
            tx.pay(9, k < 3 ? MOST : k == 3 ? 1000 : 2);
        }
        due(bench, "sums that would wrap", tx, 11);
        tx = new Tx().in(0).fee(1000).sign(0).pay(9, MOST).pay(9, MOST).pay(9, MOST).pay(9, MOST);
        due(bench, "four times 2^62 are not 0", tx, 11);
        tx = new Tx().in(0).fee(100).sign(0).pay(9, MOST - 1).pay(9, MOST - 1).pay(9, MOST - 1).pay(9, MOST - 1).pay(9, 904);
        due(bench, "2^64 + 900 are not 900", tx, 11);
        due(bench, "a KIND that there is not", new Tx().in(0).fee(100).sign(0)
                .pay(Tx.owner(9), Tx.value(0, 0, 900, 3, 1, 1), Data.i(0)), 11);
        due(bench, "two INPUTS, three OUTPUTS",
                new Tx().in(0).in(2).pay(1, 500).pay(2, 600).pay(3, 800).fee(100).sign(0, 1), 0);
        Tx minting = new Tx().in(4).back(6).mint(3, 8, 50).redeem(3, Data.i(0)).fee(100).sign(2, 3);
        due(bench, "what is MINTED has to be paid", minting.pay(2, 900), 11);
        minting.outputs.clear();
        due(bench, "MINT", minting.pay(Tx.owner(2), Tx.value(0, 0, 900, 3, 8, 50), Data.i(0)), 0);
        int made = 13;
        due(bench, "what INPUTS have has to be paid", new Tx().in(made).pay(2, 800).fee(100).sign(2), 11);
        due(bench, "of another NAME", new Tx().in(made).fee(100).sign(2)
                .pay(Tx.owner(2), Tx.value(0, 0, 800, 3, 9, 50), Data.i(0)), 11);
        Tx burning = new Tx().in(made).back(6).mint(3, 8, -20).redeem(3, Data.i(0)).fee(100).sign(2, 3);
        due(bench, "BURNT too much", burning.pay(Tx.owner(2), Tx.value(0, 0, 800, 3, 8, 31), Data.i(0)), 11);
        burning.outputs.clear();
        due(bench, "BURNT", burning.pay(Tx.owner(2), Tx.value(0, 0, 800, 3, 8, 30), Data.i(0)), 0);
        Check.due("totalOf(3, 8)", bench.x.totalOf(3, 8), 30);
        burning = new Tx().in(14).back(6).mint(3, 8, -31).redeem(3, Data.i(0)).fee(100).sign(2, 3).pay(2, 700);
        due(bench, "BURNT more than there is", burning, 11);
        burning = new Tx().in(14).back(6).mint(3, 8, -30).redeem(3, Data.i(0)).fee(100).sign(2, 3).pay(2, 700);
        due(bench, "BURNT all", burning, 0);
        Check.due("totalOf(3, 8)", bench.x.totalOf(3, 8), 0);
    }

    private static Tx minting(int in, int back, long amount) {
        return new Tx().in(in).back(back).mint(3, -1, amount).redeem(3, Data.i(0)).fee(100).sign(0, 1, 2, 3, 4)
                .pay(Tx.owner(0), Tx.value(0, 0, 900, 3, -1, amount), Data.i(0));
    }

    private static void mostOfAKind() {
        Bench bench = bench();
        due(bench, "2^62 - 5", minting(0, 9, MOST - 5), 0);
        due(bench, "6 more", minting(1, 9, 6), 11);
        due(bench, "2^62 more", minting(1, 9, MOST), 11);
        due(bench, "5 more", minting(1, 9, 5), 0);
        due(bench, "1 more", minting(2, 9, 1), 11);
        Check.due("totalOf(3, -1)", bench.x.totalOf(3, -1), MOST);
        // What INPUTS hold counts as LIVE, too.
        Tx tx = new Tx().in(10).back(9).mint(3, -1, 1).redeem(3, Data.i(0)).fee(100).sign(0, 4)
                .pay(Tx.owner(0), Tx.value(0, 0, 800, 3, -1, MOST - 4), Data.i(0));
        due(bench, "1 more on INPUTS", tx, 11);
        tx = new Tx().in(10).in(11).back(9).mint(3, -1, MOST).redeem(3, Data.i(0)).fee(100).sign(0, 4)
                .pay(Tx.owner(0), Tx.value(0, 0, 800, 3, -1, MOST), Data.i(0))
                .pay(Tx.owner(0), Tx.value(0, 0, 900, 3, -1, MOST), Data.i(0));
        due(bench, "2^62 and 2^62", tx, 11);
        tx = new Tx().in(10).in(11).back(9).mint(3, -1, -MOST).redeem(3, Data.i(0)).fee(100).sign(0, 4).pay(0, 1700);
        due(bench, "-2^62", tx, 0);
        due(bench, "2^62 at once", minting(3, 9, MOST), 0);
    }

    private static void signers() {
        Bench bench = bench();
        due(bench, "no SIGNER", new Tx().in(0).pay(9, 900).fee(100), 12);
        due(bench, "another SIGNER", new Tx().in(0).pay(9, 900).fee(100).sign(1), 12);
        due(bench, "one of two", new Tx().in(0).in(2).pay(9, 1900).fee(100).sign(0), 12);
        due(bench, "the OWNER of COLLATERAL", good().back(2), 12);
        due(bench, "all, and one more", good().back(2).sign(1, 7), 0);
    }

    /** OUTPUT 10 is of a SCRIPT, with 900 BASE; 11 has coins of POLICY 3. */
    private static Bench withScripts(int script) {
        Bench bench = bench();
        due(bench, "to a SCRIPT", new Tx().in(0).payScript(script, 900, Data.i(0)).fee(100).sign(0), 0);
        due(bench, "MINT", new Tx().in(1).back(9).mint(3, 1, 1).redeem(3, Data.i(0)).fee(100).sign(0, 4)
                .pay(Tx.owner(0), Tx.value(0, 0, 900, 3, 1, 1), Data.i(0)), 0);
        return bench;
    }

    private static Tx unlocking(long fee) {
        return new Tx().in(10).pay(9, 900 - fee).fee(fee).sign(0, 1, 2, 3, 4);
    }

    private static void collateral() {
        Bench bench = withScripts(ACCEPTS);
        due(bench, "without COLLATERAL", unlocking(100), 13);
        due(bench, "MINT without COLLATERAL", new Tx().in(2).mint(3, 1, 1).redeem(3, Data.i(0)).fee(100).sign(1)
                .pay(Tx.owner(0), Tx.value(0, 0, 900, 3, 1, 1), Data.i(0)), 13);
        due(bench, "COLLATERAL with another KIND", unlocking(100).back(11), 13);
        due(bench, "one of it with another KIND", unlocking(100).back(4).back(11), 13);
        due(bench, "1000 for 501", unlocking(501).back(4), 13);
        due(bench, "2000 for 501", unlocking(501).back(4).back(5), 0);
        bench = withScripts(ACCEPTS);
        due(bench, "COLLATERAL of a SCRIPT", minting(2, 10, 5), 13);
        due(bench, "one of it of a SCRIPT", minting(2, 10, 5).back(4), 13);
        due(bench, "1000 for 500", unlocking(500).back(4), 0);
        Check.due("COLLATERAL stays LIVE", bench.x.outputOf(4, 1), 1);
        bench = new Bench(1);
        bench.x.endowOwner(1, 999);
        bench.x.endowOwner(1, MOST - 999);
        bench.register(Term.lams(2, Term.t(1)));
        Tx tx = new Tx().in(1).back(0).mint(1, 0, 1).redeem(1, Data.i(0)).fee(MOST - 1999).sign(1)
                .pay(Tx.owner(1), Tx.value(0, 0, 1000, 1, 0, 1), Data.i(0));
        due(bench, "twice a FEE that is near 2^62", tx, 13);
        tx = new Tx().in(1).back(0).mint(1, 0, 1).redeem(1, Data.i(0)).fee(500).sign(1)
                .pay(Tx.owner(1), Tx.value(0, 0, MOST - 1499, 1, 0, 1), Data.i(0));
        due(bench, "999 for 500", tx, 13);
        tx = new Tx().in(1).back(0).mint(1, 0, 1).redeem(1, Data.i(0)).fee(499).sign(1)
                .pay(Tx.owner(1), Tx.value(0, 0, MOST - 1498, 1, 0, 1), Data.i(0));
        due(bench, "999 for 499", tx, 0);
        due(bench(), "COLLATERAL that is not asked for may be too small",
                new Tx().in(0).back(1).pay(9, 2).fee(998).sign(0), 0);
    }

    private static void leastBase() {
        Bench bench = withScripts(ACCEPTS);
        due(bench, "1 BASE", new Tx().in(2).pay(9, 1).fee(999).sign(1), 14);
        due(bench, "1 BASE in the second", new Tx().in(2).pay(9, 500).pay(9, 1).fee(499).sign(1), 14);
        due(bench, "no BASE", new Tx().in(11).fee(100).sign(0).pay(9, 800)
                .pay(Tx.owner(9), Tx.value(3, 1, 1), Data.i(0)), 14);
        due(bench, "2 BASE", new Tx().in(2).pay(9, 2).fee(998).sign(1), 0);
    }

    private static void mostOutputs() {
        Bench bench = new Bench(1);
        for (int k = 0; k < 1020; k++) {
            bench.x.endowOwner(1, 1000);
        }
        bench.register(Term.lams(2, Term.t(1)));
        Tx tx = new Tx().in(0).fee(100).sign(1).pay(1, 100).pay(1, 100).pay(1, 100).pay(1, 100);
        due(bench, "1025", new Tx().in(0).fee(100).sign(1).pay(1, 100).pay(1, 100).pay(1, 100).pay(1, 100).pay(1, 500), 15);
        due(bench, "1024", tx.fee(600), 0);
        due(bench, "one more", new Tx().in(1).fee(100).sign(1).pay(1, 900), 15);
        bench.x.undoBlocks(0);
        bench.dueLook("undone", 2, 1020);
        due(bench, "1024 again", tx, 0);
        due(bench, "none more", new Tx().in(1).fee(1000).sign(1), 0);
    }

    /** OUTPUTS 20 .. 25 have BASE and seven KINDS of POLICY 3 each. */
    private static Bench withKinds() {
        Bench bench = new Bench(1);
        for (int k = 0; k < 20; k++) {
            bench.x.endowOwner(1, 10000);
        }
        for (int k = 0; k < 3; k++) {
            bench.register(Term.lams(2, Term.t(1)));
        }
        for (int k = 0; k < 6; k++) {
            Tx tx = new Tx().in(k).back(19).redeem(3, Data.i(0)).fee(100).sign(1);
            long[] value = new long[24];
            value[2] = 9900;
            for (int i = 1; i < 8; i++) {
                tx.mint(3, 10 * k + i, 1);
                value[3 * i] = 3;
                value[3 * i + 1] = 10 * k + i;
                value[3 * i + 2] = 1;
            }
            due(bench, "KINDS", tx.pay(Tx.owner(1), Tx.value(value), Data.i(0)), 0);
        }
        return bench;
    }

    // A CONTEXT has 11 NODES, one for each SIGNER and four for each KIND of MINT and SPENT and for each OUTPUT.
    // VERDICT 16 can't be met: what is spent has to be paid or BURNT, which takes the TRANSACTION itself above
    // 200 NODES before. So a large CONTEXT is asked for here, which has to go.
    private static void largestContext() {
        Bench bench = withKinds();
        // The INPUTS have BASE and 28 KINDS together.
        Tx tx = new Tx().in(20).in(21).in(22).in(23).back(18).fee(500).redeem(1, Data.i(0)).mint(1, 7, 1).sign(1);
        for (int k = 0; k < 4; k++) {
            long[] value = new long[24];
            value[2] = k == 0 ? 4 * 9900 - 500 - 3 * 100 - 2 : 100;
            for (int i = 1; i < 8; i++) {
                value[3 * i] = 3;
                value[3 * i + 1] = 10 * k + i;
                value[3 * i + 2] = 1;
            }
            tx.pay(Tx.owner(1), Tx.value(value), Data.i(0));
        }
        tx.pay(Tx.owner(1), Tx.value(0, 0, 2, 1, 7, 1), Data.i(0));
        Check.due("NODES of the TRANSACTION", tx.data().nodes() <= 200, true);
        due(bench, "a CONTEXT of 152 NODES", tx, 0);
    }

    private static void orderOfVerdicts() {
        // Each has the fault of its VERDICT and of all behind it.
        Bench bench = withScripts(ACCEPTS);
        Tx tx = new Tx().in(10).in(0).in(2).valid(5, 4).fee(1).pay(9, 1);
        due(bench, "8", tx, 8);
        tx = new Tx().in(10).in(2).valid(5, 4).fee(1).pay(9, 1);
        due(bench, "9", tx, 9);
        due(bench, "10", tx.valid(0, 0), 10);
        due(bench, "11", tx.fee(100), 11);
        tx = new Tx().in(10).in(2).fee(1899).pay(9, 1);
        due(bench, "12", tx, 12);
        due(bench, "13", tx.sign(1), 13);
        due(bench, "14", tx.back(3).back(4).back(5).back(6).sign(2, 3), 14);
    }

    private static void applied() {
        Bench bench = bench();
        bench.x.closeBlock();
        Data datum = Data.c(3, Data.i(-500), Data.b(200, 100));
        due(bench, "APPLIED", new Tx().in(0).in(3).pay(Tx.owner(200), Tx.value(0, 0, 700), datum)
                .payScript(1, 1100, Data.l()).fee(200).sign(0, 1), 0);
        for (int number : new int[] {0, 3}) {
            Check.due("spent", bench.x.outputOf(number, 1), 0);
            Check.due("spent at", bench.x.outputOf(number, 3), 1);
        }
        int[][] wants = {{200, 1, 1, -1, 1, datum.encode().length}, {257, 1, 1, -1, 1, 1}};
        for (int k = 0; k < 2; k++) {
            for (int what = 0; what < 6; what++) {
                Check.due("outputOf(" + (10 + k) + ", " + what + ")", bench.x.outputOf(10 + k, what), wants[k][what]);
            }
        }
        for (int k = 0; k < datum.encode().length; k++) {
            Check.due("datumOf(10, " + k + ")", bench.x.datumOf(10, k), datum.encode()[k] & 255);
        }
        Check.due("datumOf(11, 0)", bench.x.datumOf(11, 0), 0x80);
        long[] looks = {200, 1, 12, 10, 1, 3, 0, 1, 0, 1, 0};
        for (int which = 0; which < looks.length; which++) {
            bench.dueLook("APPLIED", which, looks[which]);
        }
        Check.due("totalOf(0, 0)", bench.x.totalOf(0, 0), 10000);
    }

    private static void taken() {
        Bench bench = withScripts(REFUSES);
        bench.x.closeBlock();
        long pot = bench.x.lookAt(0);
        due(bench, "TAKEN", unlocking(100).back(4).back(7), 20);
        Check.due("the POT", bench.x.lookAt(0), pot + 2000);
        Check.due("the INPUT stays LIVE", bench.x.outputOf(10, 1), 1);
        bench.dueLook("no OUTPUT is made", 2, 12);
        bench.dueLook("LIVE ones", 3, 8);
        for (int number : new int[] {4, 7}) {
            Check.due("COLLATERAL is spent", bench.x.outputOf(number, 1), 0);
            Check.due("COLLATERAL is spent at", bench.x.outputOf(number, 3), 1);
        }
        bench.dueLatest("TAKEN", 20, -1, 1, 0, 10, 6, 2, unlocking(100).back(4).back(7).encode().length);
        bench.dueLook("APPLIED", 7, 2);
        bench.dueLook("TAKEN", 8, 1);
        bench.dueLook("submitted", 9, 3);
        Check.due("totalOf(0, 0)", bench.x.totalOf(0, 0), 10000);
    }

    private static void severalScripts() {
        Bench bench = bench();
        due(bench, "to SCRIPTS", new Tx().in(0).in(1).payScript(ACCEPTS, 500, Data.i(0)).payScript(REFUSES, 500, Data.i(0))
                .payScript(ACCEPTS, 900, Data.i(0)).fee(100).sign(0), 0);
        Tx tx = new Tx().in(12).in(2).in(10).back(4).back(9).mint(3, 0, 5).redeem(3, Data.i(1)).fee(400).sign(1, 2, 4)
                .pay(Tx.owner(1), Tx.value(0, 0, 2000, 3, 0, 5), Data.i(0));
        due(bench, "two INPUTS and a POLICY", tx, 0);
        bench.dueLatest("three runs", 0, -1, 3, 0, 7, 4, 2);
        int[] runs = {2, 0, 1};
        for (int script = 0; script < 3; script++) {
            Check.due("scriptOf(" + script + ", 3)", bench.x.scriptOf(script, 3), runs[script]);
        }
        bench.dueLook("STEPS of all runs", 10, 27);
        bench = bench();
        due(bench, "to SCRIPTS", new Tx().in(0).in(1).payScript(ACCEPTS, 500, Data.i(0)).payScript(REFUSES, 500, Data.i(0))
                .payScript(ACCEPTS, 900, Data.i(0)).fee(100).sign(0), 0);
        tx = new Tx().in(12).in(11).in(10).back(4).back(9).mint(MINTS + 1, 0, 5).redeem(3, Data.i(1)).fee(400)
                .sign(2, 4).pay(Tx.owner(1), Tx.value(0, 0, 1500, 3, 0, 5), Data.i(0));
        due(bench, "the second one does not accept", tx, 20);
        bench.dueLatest("two runs", 20, -1, 2, 0, 10, 6, 2);
        runs = new int[] {1, 1, 0};
        for (int script = 0; script < 3; script++) {
            Check.due("scriptOf(" + script + ", 3)", bench.x.scriptOf(script, 3), runs[script]);
        }
        bench.dueLook("STEPS of all runs", 10, 20);
    }
}
