/** Promises 12, 13: totalOf, ownedBy. */
public final class Promise12To13Test {
    private static final long MOST = 1L << 62;

    public static void main(String[] args) {
        Edge.of("What is LIVE of a KIND, for BASE with the POT", Promise12To13Test::totals);
        Edge.of("0 if there is none such", Promise12To13Test::noTotals);
        Edge.of("for BASE with the POT", Promise12To13Test::mostTotals);
        Edge.of("The NUMBER of the i-th LIVE OUTPUT, by NUMBERS, of an ADDRESS (an OWNER, or 256 + a SCRIPT)",
                Promise12To13Test::owned);
        Edge.of("NONE if there is none.", Promise12To13Test::notOwned);
        Check.end();
    }

    /** OUTPUTS 0, 2 of OWNER 3, 1 of OWNER 4; SCRIPTS 0, 1. */
    private static Bench endowed() {
        Bench bench = new Bench(2).endow(1, 3, 1000).endow(1, 4, 2000).endow(1, 3, 3000);
        bench.register(Term.lams(3, Term.t(1)));
        bench.register(Term.lams(2, Term.t(1)));
        return bench;
    }

    /** OUTPUTS 3, 5 of SCRIPT 0, 4 of OWNER 3, instead of 0. */
    private static Bench minted() {
        Bench bench = endowed();
        bench.due("APPLIED", new Tx().in(0).back(1).mint(2, 5, 70).mint(2, -1, 9).redeem(2, Data.i(0)).fee(100).sign(3, 4)
                .pay(Tx.script(0), Tx.value(0, 0, 300, 2, 5, 40), Data.i(0))
                .pay(Tx.owner(3), Tx.value(0, 0, 500, 2, 5, 30, 2, -1, 9), Data.i(0))
                .payScript(0, 100, Data.i(0)), 0);
        return bench;
    }

    /** OUTPUT 6 of OWNER 3, instead of 3. */
    private static Bench burnt() {
        Bench bench = minted();
        bench.due("APPLIED", new Tx().in(3).back(1).mint(2, 5, -15).redeem(2, Data.i(0)).fee(100).sign(4)
                .pay(Tx.owner(3), Tx.value(0, 0, 200, 2, 5, 25), Data.i(0)), 0);
        return bench;
    }

    private static void dueTotals(String what, Bench bench, long five, long last) {
        Check.due(what + ": totalOf(0, 0), with the POT", bench.x.totalOf(0, 0), 6000);
        Check.due(what + ": totalOf(2, 5)", bench.x.totalOf(2, 5), five);
        Check.due(what + ": totalOf(2, -1)", bench.x.totalOf(2, -1), last);
    }

    private static void totals() {
        dueTotals("endowed", endowed(), 0, 0);
        dueTotals("MINTED", minted(), 70, 9);
        Bench bench = burnt();
        dueTotals("BURNT", bench, 55, 9);
        bench.dueLook("the POT", 0, 200);
        bench.x.undoBlocks(0);
        dueTotals("undone", bench, 0, 0);
    }

    private static void noTotals() {
        Bench bench = minted();
        for (int policy : new int[] {Integer.MIN_VALUE, -1, 1, 3, 32, 33, Integer.MAX_VALUE}) {
            Check.due("totalOf(" + policy + ", 5)", bench.x.totalOf(policy, 5), 0);
            Check.due("totalOf(" + policy + ", 0)", bench.x.totalOf(policy, 0), 0);
        }
        for (long name : new long[] {Long.MIN_VALUE, -1, 1, 5, 1L << 32, Long.MAX_VALUE}) {
            Check.due("totalOf(0, " + name + ")", bench.x.totalOf(0, name), 0);
        }
        for (long name : new long[] {Long.MIN_VALUE, -2, 0, 4, 6, (1L << 32) + 5, Long.MAX_VALUE}) {
            Check.due("totalOf(2, " + name + ")", bench.x.totalOf(2, name), 0);
        }
        Check.due("nothing changes", bench.everything().equals(minted().everything()), true);
    }

    private static void mostTotals() {
        Bench bench = new Bench(1).endow(1, 1, MOST - 1000).endow(1, 1, 1000);
        bench.register(Term.lams(2, Term.t(0)));
        Check.due("totalOf(0, 0)", bench.x.totalOf(0, 0), MOST);
        bench.due("TAKEN", new Tx().in(1).back(0).mint(1, 0, 1).redeem(1, Data.i(0)).fee(100).sign(1)
                .pay(Tx.owner(1), Tx.value(0, 0, 900, 1, 0, 1), Data.i(0)), 20);
        bench.dueLook("the POT", 0, MOST - 1000);
        Check.due("totalOf(0, 0)", bench.x.totalOf(0, 0), MOST);
        bench.due("all is FEE", new Tx().in(1).fee(1000).sign(1), 0);
        bench.dueLook("the POT", 0, MOST);
        bench.dueLook("LIVE ones", 3, 0);
        Check.due("totalOf(0, 0), nothing being LIVE", bench.x.totalOf(0, 0), MOST);
    }

    private static void dueOwned(Bench bench, int address, int... wants) {
        for (int i = -1; i <= wants.length + 1; i++) {
            int want = i < 0 || i >= wants.length ? -1 : wants[i];
            Check.due("ownedBy(" + address + ", " + i + ")", bench.x.ownedBy(address, i), want);
        }
    }

    private static void owned() {
        Bench bench = endowed();
        dueOwned(bench, 3, 0, 2);
        dueOwned(bench, 4, 1);
        dueOwned(bench, 256);
        bench = minted();
        dueOwned(bench, 3, 2, 4);
        dueOwned(bench, 256, 3, 5);
        dueOwned(bench, 257);
        bench = burnt();
        dueOwned(bench, 3, 2, 4, 6);
        dueOwned(bench, 256, 5);
        bench.x.undoBlocks(0);
        dueOwned(bench, 3, 0, 2);
        dueOwned(bench, 256);
        bench = new Bench(1).endow(1, 0, 5).endow(1, 255, 5);
        dueOwned(bench, 0, 0);
        dueOwned(bench, 255, 1);
    }

    private static void notOwned() {
        for (int i : new int[] {Integer.MIN_VALUE, -1, 2, 3, Integer.MAX_VALUE}) {
            Refused.due("ownedBy(3, " + i + ")", Promise12To13Test::minted, bench -> bench.x.ownedBy(3, i), -1);
        }
        for (int address : new int[] {Integer.MIN_VALUE, -1, 0, 2, 5, 255, 257, 258, 287, 288, 512, Integer.MAX_VALUE}) {
            Refused.due("ownedBy(" + address + ", 0)", Promise12To13Test::minted, bench -> bench.x.ownedBy(address, 0), -1);
        }
    }
}
