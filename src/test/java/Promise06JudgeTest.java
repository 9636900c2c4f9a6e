import java.util.List;
import java.util.function.Supplier;

/** Promise 6, VERDICTS 8 to 16, 0 and 20: what a TRANSACTION may do, and what it does. */
public final class Promise06JudgeTest {
    private static final long MOST = 1L << 62;
    private static final int ACCEPTS = 0;
    private static final int REFUSES = 1;
    private static final int MINTS = 2;

    public static void main(String[] args) {
        Edge.of("8: an INPUT is no LIVE OUTPUT, or is there twice", Promise06JudgeTest::inputsAreLive);
        Edge.of("or a COLLATERAL likewise (one that is an INPUT, too, is none)", Promise06JudgeTest::collateralIsLive);
        Edge.of("9: HEIGHT is below the first number of VALIDITY or above the second.", Promise06JudgeTest::validity);
        Edge.of("10: the FEE is below 10 and one for each whole eight bytes of the TAPE.", Promise06JudgeTest::leastFee);
        Edge.of("11: for some KIND the AMOUNTS of the INPUTS and MINT are not those of the OUTPUTS (and of the FEE, for"
                + " BASE), together", Promise06JudgeTest::balance);
        Edge.of("11: for some KIND the AMOUNTS of the INPUTS and MINT", Promise06JudgeTest::balanceOfKinds);
        Edge.of("what is LIVE of it ahead of the transaction (what its INPUTS hold, too) and MINTED would be above 2^62",
                Promise06JudgeTest::mostOfAKind);
        Edge.of("12: an OWNER of an INPUT or COLLATERAL is none of the SIGNERS.", Promise06JudgeTest::signers);
        Edge.of("13: an INPUT is of a SCRIPT, or there is MINT, and COLLATERAL is empty", Promise06JudgeTest::noCollateral);
        Edge.of("or one of it is of a SCRIPT or has another KIND than BASE", Promise06JudgeTest::wrongCollateral);
        Edge.of("or all of it has less BASE than twice the FEE", Promise06JudgeTest::smallCollateral);
        Edge.of("14: an OUTPUT has less than 2 BASE.", Promise06JudgeTest::leastBase);
        Edge.of("15: more than 1024 OUTPUTS would be made.", Promise06JudgeTest::mostOutputs);
        Edge.of("At most 1024 OUTPUTS are made (as far as they are not undone).", Promise06JudgeTest::mostOutputsUndone);
        Edge.of("16: (if 13 asks for COLLATERAL) the CONTEXT would have more than 200 NODES.",
                Promise06JudgeTest::largestContext);
        Edge.of("VERDICTS: the first one that holds", Promise06JudgeTest::orderOfVerdicts);
        Edge.of("VERDICT 0: it is APPLIED: its INPUTS are spent, its OUTPUTS made, in their order, the POT grows by the FEE.",
                Promise06JudgeTest::applied);
        Edge.of("VERDICT 20: its COLLATERAL is TAKEN: it is spent, and the POT grows by its BASE.", Promise06JudgeTest::taken);
        Edge.of("its VERDICT. The TAPE is empty then.", Promise06JudgeTest::tapeIsEmpty);
        Edge.of("PHASE TWO: the SCRIPTS of INPUTS, in their order, then those of the POLICIES of MINT, rising",
                Promise06JudgeTest::severalScripts);
        Edge.of("At the first one that does not accept the VERDICT is 20.", Promise06JudgeTest::firstThatDoesNotAccept);
        Check.end();
    }

    /** OUTPUTS 0 .. 9: 1000 BASE of the OWNERS 0, 0, 1, 1, .. 4, 4; three SCRIPTS. */
    private static Bench bench() {
        Bench bench = new Bench(3);
        for (int owner = 0; owner < 5; owner++) {
            bench.endow(2, owner, 1000);
        }
        bench.register(Term.lams(3, Term.t(1)));
        bench.register(Term.lams(3, Term.t(0)));
        bench.register(Term.lams(2, Term.t(1)));
        return bench;
    }

    private static void refused(String what, Tx tx, int verdict) {
        Refused.dueTx(what, Promise06JudgeTest::bench, tx, verdict);
    }

    private static void isApplied(String what, Tx tx) {
        bench().due(what, tx, 0);
    }

    private static Tx good() {
        return new Tx().in(0).pay(9, 900).fee(100).sign(0);
    }

    private static Bench withOneSpent() {
        Bench bench = bench();
        bench.due("APPLIED", good(), 0);
        return bench;
    }

    private static void inputsAreLive() {
        refused("no such OUTPUT", new Tx().in(10).pay(9, 900).fee(100).sign(0), 8);
        refused("NUMBER -1", new Tx().in(-1).pay(9, 900).fee(100).sign(0), 8);
        refused("a good one and none", new Tx().in(0).in(10).pay(9, 900).fee(100).sign(0), 8);
        refused("an INPUT twice", new Tx().in(0).in(0).pay(9, 1900).fee(100).sign(0), 8);
        refused("an INPUT twice, not in turn", new Tx().in(0).in(1).in(0).pay(9, 1900).fee(100).sign(0), 8);
        Tx eight = new Tx().fee(100).sign(0, 1, 2, 3).pay(9, 7900);
        for (int k = 0; k < 7; k++) {
            eight.in(k);
        }
        refused("the last one once more", eight.in(6), 8);
        isApplied("LIVE", good());
        Refused.dueTx("spent", Promise06JudgeTest::withOneSpent, good(), 8);
        Bench bench = withOneSpent();
        bench.due("what was made can be spent in the same block", new Tx().in(10).pay(9, 800).fee(100).sign(9), 0);
        bench.due("made by itself", new Tx().in(1).in(12).pay(9, 900).fee(100).sign(0, 9), 8);
        bench.due("in another block", new Tx().in(11).pay(9, 700).fee(100).sign(9), 0);
    }

    private static void collateralIsLive() {
        refused("no such COLLATERAL", good().back(10), 8);
        refused("COLLATERAL -1", good().back(-1), 8);
        refused("COLLATERAL twice", good().back(1).back(1), 8);
        refused("COLLATERAL twice, not in turn", new Tx().in(2).back(0).back(1).back(0).pay(9, 900).fee(100).sign(0, 1), 8);
        refused("the fourth COLLATERAL twice", new Tx().in(9).back(0).back(1).back(2).back(2).pay(9, 900).fee(100)
                .sign(0, 1, 4), 8);
        refused("COLLATERAL that is an INPUT", good().back(0), 8);
        refused("COLLATERAL that is the second INPUT", new Tx().in(0).in(1).back(1).pay(9, 1900).fee(100).sign(0), 8);
        Bench bench = bench();
        bench.due("COLLATERAL that nothing asks for", good().back(1), 0);
        Check.due("it stays LIVE", bench.x.outputOf(1, 1), 1);
        Refused.dueTx("spent COLLATERAL", Promise06JudgeTest::withOneSpent,
                new Tx().in(1).back(0).pay(9, 900).fee(100).sign(0), 8);
    }

    private static Bench atHeight(int height) {
        Bench bench = bench();
        for (int k = 0; k < height; k++) {
            bench.x.closeBlock();
        }
        return bench;
    }

    private static void validity() {
        long[][] wrong = {{1, 5}, {-5, -1}, {1, 0}, {1, -1}, {Long.MAX_VALUE, Long.MAX_VALUE},
            {Long.MIN_VALUE, Long.MIN_VALUE}, {Long.MAX_VALUE, Long.MIN_VALUE}, {1L << 32, 1L << 33}, {0, -1}, {1, 1}};
        for (long[] pair : wrong) {
            refused("VALIDITY " + pair[0] + ", " + pair[1], good().valid(pair[0], pair[1]), 9);
        }
        for (long[] pair : new long[][] {{0, 0}, {-1, 0}, {0, 1}, {Long.MIN_VALUE, 0}, {0, Long.MAX_VALUE}}) {
            isApplied("VALIDITY " + pair[0] + ", " + pair[1], good().valid(pair[0], pair[1]));
        }
        Supplier<Bench> two = () -> atHeight(2);
        Refused.dueTx("HEIGHT 2, VALIDITY 0, 1", two, good().valid(0, 1), 9);
        Refused.dueTx("HEIGHT 2, VALIDITY 3, 9", two, good().valid(3, 9), 9);
        for (long[] pair : new long[][] {{2, 2}, {0, 2}, {2, 9}}) {
            atHeight(2).due("HEIGHT 2, VALIDITY " + pair[0] + ", " + pair[1], good().valid(pair[0], pair[1]), 0);
        }
        Bench bench = atHeight(2);
        bench.x.undoBlocks(1);
        bench.due("HEIGHT 1 again, VALIDITY 2, 2", good().valid(2, 2), 9);
        bench.due("HEIGHT 1 again, VALIDITY 1, 1", good().valid(1, 1), 0);
    }

    /** A TRANSACTION with so many bytes, by its REDEEMER: BYTES, alone or in a LIST with others. */
    private static Tx ofLength(int bytes, long fee) {
        for (int many = 0; many <= 64; many++) {
            for (int others : new int[] {-1, 0, 1, 64}) {
                Data redeemer = others < 0 ? Data.bs(many) : Data.l(Data.bs(many), Data.bs(others));
                Tx tx = new Tx().in(0, redeemer).pay(9, 1000 - fee).fee(fee).sign(0);
                if (tx.encode().length == bytes) {
                    return tx;
                }
            }
        }
        throw new IllegalStateException("no such length: " + bytes);
    }

    private static void leastFee() {
        for (int eights : new int[] {5, 6, 7, 8, 9, 16, 20}) {
            int fee = 10 + eights;
            for (int bytes : new int[] {8 * eights, 8 * eights + 7}) {
                refused(bytes + " bytes, FEE " + (fee - 1), ofLength(bytes, fee - 1), 10);
                isApplied(bytes + " bytes, FEE " + fee, ofLength(bytes, fee));
            }
        }
        refused("FEE 0", good().fee(0), 10);
        refused("FEE 9", good().fee(9), 10);
    }

    private static void balance() {
        refused("one too much", new Tx().in(0).pay(9, 901).fee(100).sign(0), 11);
        refused("one too few", new Tx().in(0).pay(9, 899).fee(100).sign(0), 11);
        refused("a FEE of one too few", new Tx().in(0).pay(9, 900).fee(99).sign(0), 11);
        refused("no OUTPUT", new Tx().in(0).fee(100).sign(0), 11);
        isApplied("no OUTPUT, all is FEE", new Tx().in(0).fee(1000).sign(0));
        refused("2^62 twice is no sum", new Tx().in(0).pay(9, MOST).pay(9, MOST).fee(100).sign(0), 11);
        refused("four times 2^62 are not 0",
                new Tx().in(0).fee(1000).sign(0).pay(9, MOST).pay(9, MOST).pay(9, MOST).pay(9, MOST), 11);
        refused("three times 2^62 and a FEE of 2^62 are not 0",
                new Tx().in(0).fee(MOST).sign(0).pay(9, MOST).pay(9, MOST).pay(9, MOST).pay(9, 1000), 11);
        Tx tx = new Tx().in(0).fee(100).sign(0);
        tx.pay(9, MOST - 1).pay(9, MOST - 1).pay(9, MOST - 1).pay(9, MOST - 1).pay(9, 904);
        refused("2^64 + 900 are not 900", tx, 11);
        isApplied("two INPUTS, three OUTPUTS",
                new Tx().in(0).in(2).pay(1, 500).pay(2, 600).pay(3, 800).fee(100).sign(0, 1));
        refused("COLLATERAL is not spent", new Tx().in(0).back(1).pay(9, 1900).fee(100).sign(0), 11);
    }

    private static Tx minting(int in, int back, long amount) {
        return new Tx().in(in).back(back).mint(3, -1, amount).redeem(3, Data.i(0)).fee(100).sign(0, 1, 2, 3, 4)
                .pay(Tx.owner(0), Tx.value(0, 0, 900, 3, -1, amount), Data.i(0));
    }

    /** OUTPUT 10 has 900 BASE and 50 of a KIND. */
    private static Bench withCoins() {
        Bench bench = bench();
        bench.due("MINT", new Tx().in(4).back(6).mint(3, 8, 50).redeem(3, Data.i(0)).fee(100).sign(2, 3)
                .pay(Tx.owner(2), Tx.value(0, 0, 900, 3, 8, 50), Data.i(0)), 0);
        return bench;
    }

    /** So much is MINTED of that KIND, or BURNT, and so much of it is paid (0: nothing). */
    private static Tx changing(long minted, long paid) {
        Tx tx = new Tx().in(10).back(6).fee(100).sign(2, 3).mint(3, 8, minted).redeem(3, Data.i(0));
        return paid == 0 ? tx.pay(2, 800) : tx.pay(Tx.owner(2), Tx.value(0, 0, 800, 3, 8, paid), Data.i(0));
    }

    private static void balanceOfKinds() {
        refused("a KIND that there is not", new Tx().in(0).fee(100).sign(0)
                .pay(Tx.owner(9), Tx.value(0, 0, 900, 3, 1, 1), Data.i(0)), 11);
        refused("what is MINTED has to be paid", new Tx().in(4).back(6).mint(3, 8, 50).redeem(3, Data.i(0)).fee(100)
                .sign(2, 3).pay(2, 900), 11);
        refused("BURNT of none", new Tx().in(4).back(6).mint(3, 8, -1).redeem(3, Data.i(0)).fee(100)
                .sign(2, 3).pay(2, 900), 11);
        Supplier<Bench> start = Promise06JudgeTest::withCoins;
        Refused.dueTx("what INPUTS have has to be paid", start, new Tx().in(10).pay(2, 800).fee(100).sign(2), 11);
        Refused.dueTx("of another NAME", start, new Tx().in(10).fee(100).sign(2)
                .pay(Tx.owner(2), Tx.value(0, 0, 800, 3, 9, 50), Data.i(0)), 11);
        Refused.dueTx("of another POLICY", start, new Tx().in(10).fee(100).sign(2)
                .pay(Tx.owner(2), Tx.value(0, 0, 800, 2, 8, 50), Data.i(0)), 11);
        Refused.dueTx("one more", start, new Tx().in(10).fee(100).sign(2)
                .pay(Tx.owner(2), Tx.value(0, 0, 800, 3, 8, 51), Data.i(0)), 11);
        withCoins().due("just so much", new Tx().in(10).fee(100).sign(2)
                .pay(Tx.owner(2), Tx.value(0, 0, 800, 3, 8, 50), Data.i(0)), 0);
        long[][] wrong = {{-20, 31}, {-20, 29}, {-20, 50}, {-51, 0}, {-49, 0}, {-50, 1}, {20, 69}, {20, 71}, {20, 50},
            {-MOST, 0}, {MOST, 50}};
        for (long[] pair : wrong) {
            Refused.dueTx(pair[0] + " of 50, " + pair[1] + " paid", start, changing(pair[0], pair[1]), 11);
        }
        for (long[] pair : new long[][] {{-20, 30}, {-49, 1}, {-50, 0}, {20, 70}}) {
            Bench bench = withCoins();
            bench.due(pair[0] + " of 50, " + pair[1] + " paid", changing(pair[0], pair[1]), 0);
            Check.due("totalOf(3, 8)", bench.x.totalOf(3, 8), pair[1]);
        }
    }

    /** OUTPUT 10 has 2^62 - 5 of a KIND. */
    private static Bench nearlyAll() {
        Bench bench = bench();
        bench.due("2^62 - 5", minting(0, 9, MOST - 5), 0);
        return bench;
    }

    /** OUTPUT 11 has the other 5. */
    private static Bench all() {
        Bench bench = nearlyAll();
        bench.due("5 more", minting(1, 9, 5), 0);
        Check.due("totalOf(3, -1)", bench.x.totalOf(3, -1), MOST);
        return bench;
    }

    private static void mostOfAKind() {
        for (long more : new long[] {6, 7, MOST - 1, MOST}) {
            Refused.dueTx(more + " more", Promise06JudgeTest::nearlyAll, minting(1, 9, more), 11);
        }
        nearlyAll().due("4 more", minting(1, 9, 4), 0);
        nearlyAll().due("5 more", minting(1, 9, 5), 0);
        Refused.dueTx("1 more", Promise06JudgeTest::all, minting(2, 9, 1), 11);
        // What INPUTS hold counts as LIVE, too.
        Refused.dueTx("1 more on INPUTS", Promise06JudgeTest::all,
                new Tx().in(10).back(9).mint(3, -1, 1).redeem(3, Data.i(0)).fee(100).sign(0, 4)
                        .pay(Tx.owner(0), Tx.value(0, 0, 800, 3, -1, MOST - 4), Data.i(0)), 11);
        Refused.dueTx("2^62 and 2^62", Promise06JudgeTest::all,
                new Tx().in(10).in(11).back(9).mint(3, -1, MOST).redeem(3, Data.i(0)).fee(100).sign(0, 4)
                        .pay(Tx.owner(0), Tx.value(0, 0, 800, 3, -1, MOST), Data.i(0))
                        .pay(Tx.owner(0), Tx.value(0, 0, 900, 3, -1, MOST), Data.i(0)), 11);
        Bench bench = all();
        bench.due("another NAME has its own", new Tx().in(2).back(9).mint(3, -2, MOST).redeem(3, Data.i(0)).fee(100)
                .sign(1, 4).pay(Tx.owner(1), Tx.value(0, 0, 900, 3, -2, MOST), Data.i(0)), 0);
        bench.due("-2^62", new Tx().in(10).in(11).back(9).mint(3, -1, -MOST).redeem(3, Data.i(0)).fee(100).sign(0, 4)
                .pay(0, 1700), 0);
        Check.due("totalOf(3, -1)", bench.x.totalOf(3, -1), 0);
        bench.due("2^62 at once", minting(4, 9, MOST), 0);
        Check.due("totalOf(3, -1)", bench.x.totalOf(3, -1), MOST);
    }

    private static void signers() {
        refused("no SIGNER", new Tx().in(0).pay(9, 900).fee(100), 12);
        refused("another SIGNER", new Tx().in(0).pay(9, 900).fee(100).sign(1), 12);
        refused("others around it", new Tx().in(2).pay(9, 900).fee(100).sign(0, 2), 12);
        refused("the first of two", new Tx().in(0).in(2).pay(9, 1900).fee(100).sign(0), 12);
        refused("the second of two", new Tx().in(0).in(2).pay(9, 1900).fee(100).sign(1), 12);
        refused("the OWNER of COLLATERAL is none", good().back(2), 12);
        refused("the OWNER of the second COLLATERAL is none", good().back(1).back(2), 12);
        isApplied("the OWNER of COLLATERAL", good().back(2).sign(1));
        isApplied("all, and one more", good().back(2).sign(1, 7));
        Tx tx = new Tx().in(0).pay(9, 900).fee(100).sign(0, 1, 2, 3, 4, 5, 6, 255);
        isApplied("the first of eight", tx);
        Bench bench = new Bench(1).endow(1, 255, 1000).endow(1, 0, 1000);
        bench.due("OWNER 255 by none", new Tx().in(0).pay(9, 900).fee(100), 12);
        bench.due("OWNER 255 by others", new Tx().in(0).pay(9, 900).fee(100).sign(0, 254), 12);
        bench.due("COLLATERAL of OWNER 255 by none", new Tx().in(1).back(0).pay(9, 900).fee(100).sign(0), 12);
        bench.due("OWNER 255", new Tx().in(0).pay(9, 900).fee(100).sign(0, 1, 2, 3, 4, 5, 6, 255), 0);
        bench.due("OWNER 0 by none", new Tx().in(1).pay(9, 900).fee(100), 12);
        bench.due("OWNER 0", new Tx().in(1).pay(9, 900).fee(100).sign(0), 0);
    }

    /** OUTPUT 10 is of a SCRIPT, with 900 BASE; 11 has coins of POLICY 3. */
    private static Bench withScripts(int script) {
        Bench bench = bench();
        bench.due("to a SCRIPT", new Tx().in(0).payScript(script, 900, Data.i(0)).fee(100).sign(0), 0);
        bench.due("MINT", new Tx().in(1).back(9).mint(3, 1, 1).redeem(3, Data.i(0)).fee(100).sign(0, 4)
                .pay(Tx.owner(0), Tx.value(0, 0, 900, 3, 1, 1), Data.i(0)), 0);
        return bench;
    }

    private static Bench accepting() {
        return withScripts(ACCEPTS);
    }

    private static Tx unlocking(long fee) {
        return new Tx().in(10).pay(9, 900 - fee).fee(fee).sign(0, 1, 2, 3, 4);
    }

    private static Tx mintingWith(int... collateral) {
        Tx tx = new Tx().in(2).mint(3, 1, 1).redeem(3, Data.i(0)).fee(100).sign(0, 1, 2, 3, 4)
                .pay(Tx.owner(0), Tx.value(0, 0, 900, 3, 1, 1), Data.i(0));
        for (int number : collateral) {
            tx.back(number);
        }
        return tx;
    }

    private static void noCollateral() {
        Refused.dueTx("an INPUT of a SCRIPT", Promise06JudgeTest::accepting, unlocking(100), 13);
        Refused.dueTx("a second INPUT of a SCRIPT", Promise06JudgeTest::accepting,
                new Tx().in(2).in(10).pay(9, 1800).fee(100).sign(1), 13);
        Refused.dueTx("MINT", Promise06JudgeTest::accepting, mintingWith(), 13);
        Refused.dueTx("BURNT", Promise06JudgeTest::accepting, new Tx().in(11).mint(3, 1, -1).redeem(3, Data.i(0)).fee(100)
                .sign(0).pay(9, 800), 13);
        accepting().due("an INPUT of a SCRIPT, with it", unlocking(100).back(4), 0);
        accepting().due("MINT, with it", mintingWith(4), 0);
        accepting().due("an OUTPUT of a SCRIPT does not ask for it",
                new Tx().in(2).payScript(0, 900, Data.i(0)).fee(100).sign(1), 0);
        accepting().due("other KINDS do not ask for it", new Tx().in(11).fee(100).sign(0)
                .pay(Tx.owner(0), Tx.value(0, 0, 800, 3, 1, 1), Data.i(0)), 0);
    }

    private static void wrongCollateral() {
        Refused.dueTx("with another KIND", Promise06JudgeTest::accepting, unlocking(100).back(11), 13);
        Refused.dueTx("the second with another KIND", Promise06JudgeTest::accepting, unlocking(100).back(4).back(11), 13);
        Refused.dueTx("the first with another KIND", Promise06JudgeTest::accepting, unlocking(100).back(11).back(4), 13);
        Refused.dueTx("of a SCRIPT", Promise06JudgeTest::accepting, mintingWith(10), 13);
        Refused.dueTx("the second of a SCRIPT", Promise06JudgeTest::accepting, mintingWith(4, 10), 13);
        Refused.dueTx("the first of a SCRIPT", Promise06JudgeTest::accepting, mintingWith(10, 4), 13);
        for (int owner : new int[] {0, 255}) {
            Bench first = new Bench(1).endow(1, 1, 1000).endow(1, owner, 1000);
            first.register(Term.lams(2, Term.t(1)));
            Tx tx = new Tx().in(0).back(1).mint(1, 0, 1).redeem(1, Data.i(0)).fee(100)
                    .pay(Tx.owner(1), Tx.value(0, 0, 900, 1, 0, 1), Data.i(0));
            first.due("of OWNER " + owner, owner == 0 ? tx.sign(0, 1) : tx.sign(1, 255), 0);
        }
        Bench bench = accepting();
        bench.due("not asked for, it may be of a SCRIPT", new Tx().in(2).back(10).pay(9, 900).fee(100).sign(1), 0);
        bench.due("not asked for, it may have another KIND", new Tx().in(3).back(11).pay(9, 900).fee(100).sign(0, 1), 0);
    }

    private static void smallCollateral() {
        Refused.dueTx("1000 for 501", Promise06JudgeTest::accepting, unlocking(501).back(4), 13);
        accepting().due("1000 for 500", unlocking(500).back(4), 0);
        accepting().due("2000 for 501", unlocking(501).back(4).back(5), 0);
        // Four together: 4 * 30, the last one alone with one less.
        for (int last = 29; last <= 31; last++) {
            Bench bench = new Bench(1).endow(1, 1, 1000).endow(3, 1, 30).endow(1, 1, last);
            bench.register(Term.lams(2, Term.t(1)));
            Tx tx = new Tx().in(0).back(1).back(2).back(3).back(4).mint(1, 0, 1).redeem(1, Data.i(0)).fee(60).sign(1)
                    .pay(Tx.owner(1), Tx.value(0, 0, 940, 1, 0, 1), Data.i(0));
            bench.due("90 and " + last + " for 60", tx, last < 30 ? 13 : 0);
        }
        for (long fee : new long[] {499, 500, MOST - 1999}) {
            Bench bench = new Bench(1).endow(1, 1, 999).endow(1, 1, MOST - 999);
            bench.register(Term.lams(2, Term.t(1)));
            Tx tx = new Tx().in(1).back(0).mint(1, 0, 1).redeem(1, Data.i(0)).fee(fee).sign(1)
                    .pay(Tx.owner(1), Tx.value(0, 0, MOST - 999 - fee, 1, 0, 1), Data.i(0));
            bench.due("999 for " + fee, tx, fee == 499 ? 0 : 13);
        }
        isApplied("not asked for, it may be too small", new Tx().in(0).back(1).pay(9, 2).fee(998).sign(0));
    }

    private static void leastBase() {
        refused("1 BASE", new Tx().in(2).pay(9, 1).fee(999).sign(1), 14);
        refused("1 BASE in the second", new Tx().in(2).pay(9, 500).pay(9, 1).fee(499).sign(1), 14);
        Tx eight = new Tx().in(2).fee(985).sign(1);
        for (int k = 0; k < 8; k++) {
            eight.pay(9, k == 7 ? 1 : 2);
        }
        refused("1 BASE in the eighth", eight, 14);
        Refused.dueTx("no BASE", Promise06JudgeTest::accepting, new Tx().in(11).fee(100).sign(0).pay(9, 800)
                .pay(Tx.owner(9), Tx.value(3, 1, 1), Data.i(0)), 14);
        Refused.dueTx("1 BASE with another KIND", Promise06JudgeTest::accepting, new Tx().in(11).fee(100).sign(0)
                .pay(9, 799).pay(Tx.owner(9), Tx.value(0, 0, 1, 3, 1, 1), Data.i(0)), 14);
        accepting().due("2 BASE with another KIND", new Tx().in(11).fee(100).sign(0)
                .pay(9, 798).pay(Tx.owner(9), Tx.value(0, 0, 2, 3, 1, 1), Data.i(0)), 0);
        isApplied("2 BASE", new Tx().in(2).pay(9, 2).fee(998).sign(1));
        Refused.dueTx("1 BASE to a SCRIPT", Promise06JudgeTest::accepting,
                new Tx().in(2).payScript(0, 1, Data.i(0)).fee(999).sign(1), 14);
    }

    private static Tx paysEight(long input) {
        Tx tx = new Tx().in(input).fee(200).sign(1);
        for (int k = 0; k < 8; k++) {
            tx.pay(1, 100);
        }
        return tx;
    }

    // 1024 OUTPUTS take more than the 512 calls of an object: eight of them are at least 17 calls. What comes nearest
    // to it has to go.
    private static void mostOutputs() {
        Bench bench = new Bench(1).endow(460, 1, 1000);
        bench.due("eight more", paysEight(0), 0);
        bench.due("and eight", paysEight(459), 0);
        bench.dueLook("OUTPUTS", 2, 476);
        bench.dueLook("LIVE ones", 3, 474);
        Check.due("the last one", bench.x.ownedBy(1, 473), 475);
    }

    private static void mostOutputsUndone() {
        Bench bench = new Bench(1).endow(450, 1, 1000);
        bench.due("eight more", paysEight(0), 0);
        bench.x.undoBlocks(0);
        bench.dueLook("undone", 2, 450);
        bench.due("eight again", paysEight(449), 0);
        bench.dueLook("OUTPUTS", 2, 458);
        bench.dueLook("the POT", 0, 200);
        Check.due("the first NUMBER again", bench.x.outputOf(450, 1), 1);
    }

    private static void tapeIsEmpty() {
        Bench bench = withScripts(REFUSES);
        bench.due("APPLIED", new Tx().in(2).pay(9, 900).fee(100).sign(1), 0);
        bench.dueLook("the TAPE", 6, 0);
        bench.due("TAKEN", unlocking(100).back(4), 20);
        bench.dueLook("the TAPE", 6, 0);
        bench.due("refused", unlocking(100).back(4), 8);
        bench.dueLook("the TAPE", 6, 0);
        Check.due("nothing is left of it", bench.x.submitTape(), 1);
        Check.due("registerScript()", bench.x.registerScript(), -1);
    }

    /** OUTPUTS 6 .. 10 have BASE and seven KINDS of POLICY 1 each, with NAMES 10 * k + 1 .. 10 * k + 7. */
    private static Bench withKinds() {
        Bench bench = new Bench(1).endow(6, 1, 10000);
        // CONTEXT = CONTEXT: its STEPS tell how many NODES it has.
        bench.register(Term.lams(2, Term.fn(17, Term.v(1), Term.v(1))));
        for (int k = 0; k < 5; k++) {
            Tx tx = new Tx().in(k).back(5).redeem(1, Data.i(0)).fee(100).sign(1);
            long[] value = new long[24];
            value[2] = 9900;
            for (int i = 1; i < 8; i++) {
                tx.mint(1, 10 * k + i, 1);
                setCoin(value, i, 10 * k + i);
            }
            bench.due("KINDS", tx.pay(Tx.owner(1), Tx.value(value), Data.i(0)), 0);
        }
        return bench;
    }

    private static void setCoin(long[] value, int i, long name) {
        value[3 * i] = 1;
        value[3 * i + 1] = name;
        value[3 * i + 2] = 1;
    }

    // A CONTEXT has 11 NODES, one for each SIGNER and four for each KIND of MINT and SPENT and for each OUTPUT.
    // VERDICT 16 can't be met: what is spent has to be paid or BURNT, which takes the TRANSACTION itself above
    // 200 NODES before. 198 is the most that a CONTEXT can have; that has to go.
    private static void largestContext() {
        Bench bench = withKinds();
        // The INPUTS have BASE and 35 KINDS together; 8 are BURNT, 27 are paid in four OUTPUTS.
        Tx tx = new Tx().in(6).in(7).in(8).in(9).back(5).fee(1000).redeem(1, Data.i(0)).sign(1, 2, 3, 4, 5, 6, 7);
        int kept = 0;
        long[][] values = new long[4][24];
        for (int k = 0; k < 4; k++) {
            for (int i = 1; i < 8; i++) {
                if (k < 3 && i < 4 && tx.mint.size() < 8) {
                    tx.mint(1, 10 * k + i, -1);
                } else {
                    setCoin(values[kept / 5], 1 + kept % 5, 10 * k + i);
                    kept++;
                }
            }
        }
        Check.due("KINDS that are paid", kept, 20);
        for (int k = 0; k < 4; k++) {
            values[k][2] = k == 0 ? 4 * 9900 - 1000 - 30 : 10;
            tx.pay(Tx.owner(1), Tx.value(java.util.Arrays.copyOf(values[k], 18)), Data.i(0));
        }
        int nodes = 11 + 7 + 4 * (8 + 29 + 4);
        bench.due("a CONTEXT of " + nodes + " NODES", tx, 0);
        Check.due("STEPS", bench.x.latestOf(4), Lab.STEPS_BEFORE + 5 + 2 * nodes + 1);
        largest();
    }

    /** Five INPUTS with BASE and 32 KINDS: 200 NODES of the TRANSACTION, 198 of the CONTEXT. */
    private static void largest() {
        Bench bench = withKinds();
        // One KIND of each of the last three OUTPUTS goes away before.
        bench.due("BURNT", new Tx().in(8).in(9).in(10).back(5).fee(300).redeem(1, Data.i(0)).sign(1)
                .mint(1, 21, -1).mint(1, 31, -1).mint(1, 41, -1)
                .pay(Tx.owner(1), Tx.value(0, 0, 9800, 1, 22, 1, 1, 23, 1, 1, 24, 1, 1, 25, 1, 1, 26, 1, 1, 27, 1), Data.i(0))
                .pay(Tx.owner(1), Tx.value(0, 0, 9800, 1, 32, 1, 1, 33, 1, 1, 34, 1, 1, 35, 1, 1, 36, 1, 1, 37, 1), Data.i(0))
                .pay(Tx.owner(1), Tx.value(0, 0, 9800, 1, 42, 1, 1, 43, 1, 1, 44, 1, 1, 45, 1, 1, 46, 1, 1, 47, 1), Data.i(0)),
                0);
        Tx tx = new Tx().in(6).in(7).in(11).in(12).in(13).back(5).fee(1000).redeem(1, Data.i(0)).sign(1, 2, 3, 4, 5, 6, 7);
        long[] names = new long[32];
        int many = 0;
        for (int k = 0; k < 5; k++) {
            for (int i = k < 2 ? 1 : 2; i < 8; i++) {
                names[many] = 10 * k + i;
                many++;
            }
        }
        for (int k = 0; k < 8; k++) {
            tx.mint(1, names[k], -1);
        }
        for (int k = 0; k < 4; k++) {
            long[] value = new long[21];
            value[2] = k == 0 ? 2 * 9900 + 3 * 9800 - 1000 - 30 : 10;
            for (int i = 1; i < 7; i++) {
                setCoin(value, i, names[8 + 6 * k + i - 1]);
            }
            tx.pay(Tx.owner(1), Tx.value(value), Data.i(0));
        }
        Check.due("NODES of the TRANSACTION", tx.data().nodes(), 200);
        bench.due("a CONTEXT of 198 NODES", tx, 0);
        Check.due("STEPS", bench.x.latestOf(4), Lab.STEPS_BEFORE + 5 + 2 * 198 + 1);
    }

    /** Each has the fault of its VERDICT and of all behind it. */
    private static void orderOfVerdicts() {
        Supplier<Bench> start = Promise06JudgeTest::accepting;
        Refused.dueTx("8", start, new Tx().in(10).in(0).in(2).valid(5, 4).fee(1).pay(9, 1), 8);
        Tx tx = new Tx().in(10).in(2).valid(5, 4).fee(1).pay(9, 1);
        Refused.dueTx("8 of COLLATERAL", start, new Tx().in(10).in(2).back(0).valid(5, 4).fee(1).pay(9, 1), 8);
        Refused.dueTx("9", start, tx, 9);
        Refused.dueTx("10", start, tx.valid(0, 0), 10);
        Refused.dueTx("11", start, tx.fee(100), 11);
        tx = new Tx().in(10).in(2).fee(1899).pay(9, 1);
        Refused.dueTx("12", start, tx, 12);
        Refused.dueTx("13", start, tx.sign(1), 13);
        Refused.dueTx("14", start, tx.back(3).back(4).back(5).back(6).sign(2, 3), 14);
        // The second clause of 11 with 12, 13 and 14.
        Refused.dueTx("11, too much of a KIND", Promise06JudgeTest::all,
                new Tx().in(2).mint(3, -1, 1).redeem(3, Data.i(0)).fee(999)
                        .pay(Tx.owner(0), Tx.value(0, 0, 1, 3, -1, 1), Data.i(0)), 11);
    }

    private static void applied() {
        Bench bench = bench();
        bench.x.closeBlock();
        Data datum = Data.c(3, Data.i(-500), Data.b(200, 100));
        bench.due("APPLIED", new Tx().in(3).in(0).pay(Tx.owner(200), Tx.value(0, 0, 700), datum)
                .payScript(1, 1100, Data.l()).fee(200).sign(0, 1), 0);
        for (int number : new int[] {0, 3}) {
            Check.due("spent", bench.x.outputOf(number, 1), 0);
            Check.due("spent at", bench.x.outputOf(number, 3), 1);
        }
        int[][] wants = {{200, 1, 1, -1, 1, datum.encode().length}, {257, 1, 1, -1, 1, 1}};
        for (int k = 0; k < 2; k++) {
            for (int what = 0; what < 6; what++) {
                Check.due("outputOf(" + (10 + k) + ", " + what + ")", bench.x.outputOf(10 + k, what), wants[k][what]);
            }
        }
        for (int k = 0; k < datum.encode().length; k++) {
            Check.due("datumOf(10, " + k + ")", bench.x.datumOf(10, k), datum.encode()[k] & 255);
        }
        Check.due("datumOf(11, 0)", bench.x.datumOf(11, 0), 0x80);
        Check.due("coinOf(10, 0, 2)", bench.x.coinOf(10, 0, 2), 700);
        Check.due("coinOf(11, 0, 2)", bench.x.coinOf(11, 0, 2), 1100);
        long[] looks = {200, 1, 12, 10, 1, 3, 0, 1, 0, 1, 0};
        for (int which = 0; which < looks.length; which++) {
            bench.dueLook("APPLIED", which, looks[which]);
        }
        Check.due("totalOf(0, 0)", bench.x.totalOf(0, 0), 10000);
    }

    private static void taken() {
        Bench bench = withScripts(REFUSES);
        bench.x.closeBlock();
        long pot = bench.x.lookAt(0);
        Tx tx = unlocking(100).back(4).back(7);
        bench.due("TAKEN", tx, 20);
        Check.due("the POT", bench.x.lookAt(0), pot + 2000);
        Check.due("the INPUT stays LIVE", bench.x.outputOf(10, 1), 1);
        bench.dueLook("no OUTPUT is made", 2, 12);
        bench.dueLook("LIVE ones", 3, 8);
        for (int number : new int[] {4, 7}) {
            Check.due("COLLATERAL is spent", bench.x.outputOf(number, 1), 0);
            Check.due("COLLATERAL is spent at", bench.x.outputOf(number, 3), 1);
        }
        bench.dueLatest("TAKEN", 20, -1, 1, 0, 10, 6, 2, tx.encode().length);
        bench.dueLook("APPLIED", 7, 2);
        bench.dueLook("TAKEN", 8, 1);
        bench.dueLook("submitted", 9, 3);
        bench.dueLook("the TAPE", 6, 0);
        Check.due("totalOf(0, 0)", bench.x.totalOf(0, 0), 10000);
        bench.due("what was TAKEN is not LIVE", unlocking(100).back(4), 8);
    }

    /** OUTPUTS 10, 11, 12 of the SCRIPTS ACCEPTS, REFUSES, ACCEPTS. */
    private static Bench withThree() {
        Bench bench = bench();
        bench.due("to SCRIPTS", new Tx().in(0).in(1).payScript(ACCEPTS, 500, Data.i(0)).payScript(REFUSES, 500, Data.i(0))
                .payScript(ACCEPTS, 900, Data.i(0)).fee(100).sign(0), 0);
        return bench;
    }

    private static void dueRuns(Bench bench, int... wants) {
        for (int script = 0; script < wants.length; script++) {
            Check.due("scriptOf(" + script + ", 3)", bench.x.scriptOf(script, 3), wants[script]);
        }
    }

    private static void severalScripts() {
        Bench bench = withThree();
        bench.due("two INPUTS and a POLICY", new Tx().in(12).in(2).in(10).back(4).back(9).mint(3, 0, 5)
                .redeem(3, Data.i(1)).fee(400).sign(1, 2, 4)
                .pay(Tx.owner(1), Tx.value(0, 0, 2000, 3, 0, 5), Data.i(0)), 0);
        bench.dueLatest("three runs", 0, -1, 3, 0, 7, 4, 2);
        dueRuns(bench, 2, 0, 1);
        bench.dueLook("STEPS of all runs", 10, 27);
        Check.due("COLLATERAL stays LIVE", bench.x.outputOf(4, 1), 1);
        // SCRIPT 1 as a POLICY comes to a FUNCTION; it is the first of the two.
        bench = bench();
        bench.due("POLICIES rise", new Tx().in(0).back(4).mint(2, 0, 5).mint(3, 0, 5).redeem(2, Data.i(1))
                .redeem(3, Data.i(1)).fee(400).sign(0, 2)
                .pay(Tx.owner(1), Tx.value(0, 0, 600, 2, 0, 5, 3, 0, 5), Data.i(0)), 20);
        bench.dueLatest("one run", 20, -1, 1, 0, 7, 5, 5);
        dueRuns(bench, 0, 1, 0);
        bench = bench();
        bench.due("POLICIES rise", new Tx().in(0).back(4).mint(1, 0, 5).mint(3, 0, 5).redeem(1, Data.i(1))
                .redeem(3, Data.i(1)).fee(400).sign(0, 2)
                .pay(Tx.owner(1), Tx.value(0, 0, 600, 1, 0, 5, 3, 0, 5), Data.i(0)), 20);
        dueRuns(bench, 1, 0, 0);
    }

    private static void firstThatDoesNotAccept() {
        Bench bench = withThree();
        List<Long> live = bench.ledger();
        bench.due("the second one", new Tx().in(12).in(11).in(10).back(4).back(9).mint(MINTS + 1, 0, 5)
                .redeem(3, Data.i(1)).fee(400).sign(2, 4)
                .pay(Tx.owner(1), Tx.value(0, 0, 1500, 3, 0, 5), Data.i(0)), 20);
        bench.dueLatest("two runs", 20, -1, 2, 0, 10, 6, 2);
        dueRuns(bench, 1, 1, 0);
        bench.dueLook("STEPS of all runs", 10, 20);
        bench.dueLook("OUTPUTS", 2, live.get(2));
        Check.due("totalOf(3, 0)", bench.x.totalOf(3, 0), 0);
        bench = withThree();
        bench.due("the first one", new Tx().in(11).in(12).in(10).back(4).back(9).fee(400).sign(2, 4).pay(1, 1500), 20);
        bench.dueLatest("one run", 20, -1, 1, 0, 10, 6, 2);
        dueRuns(bench, 0, 1, 0);
        bench = withThree();
        bench.due("the last one, a POLICY", new Tx().in(12).in(10).back(4).back(9).mint(2, 0, 5).redeem(2, Data.i(1))
                .fee(400).sign(2, 4).pay(Tx.owner(1), Tx.value(0, 0, 1000, 2, 0, 5), Data.i(0)), 20);
        bench.dueLatest("three runs", 20, -1, 3, 0, 7, 5, 5);
        dueRuns(bench, 2, 1, 0);
    }
}
