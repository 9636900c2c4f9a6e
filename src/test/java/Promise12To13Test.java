/** Promises 12, 13: totalOf, ownedBy. */
public final class Promise12To13Test {
    public static void main(String[] args) {
        Bench bench = new Bench(2);
        bench.x.endowOwner(3, 1000);
        bench.x.endowOwner(4, 2000);
        bench.x.endowOwner(3, 3000);
        bench.register(Term.lams(3, Term.t(1)));
        bench.register(Term.lams(2, Term.t(1)));
        Check.due("totalOf(0, 0)", bench.x.totalOf(0, 0), 6000);
        owned(bench, 3, 0, 2);
        owned(bench, 4, 1);
        owned(bench, 256);
        Tx tx = new Tx().in(0).back(1).mint(2, 5, 70).mint(2, -1, 9).redeem(2, Data.i(0)).fee(100).sign(3, 4)
                .pay(Tx.script(0), Tx.value(0, 0, 300, 2, 5, 40), Data.i(0))
                .pay(Tx.owner(3), Tx.value(0, 0, 500, 2, 5, 30, 2, -1, 9), Data.i(0))
                .payScript(0, 100, Data.i(0));
        Check.due("submitTape()", bench.submit(tx), 0);
        Check.due("totalOf(0, 0), with the POT", bench.x.totalOf(0, 0), 6000);
        Check.due("totalOf(2, 5)", bench.x.totalOf(2, 5), 70);
        Check.due("totalOf(2, -1)", bench.x.totalOf(2, -1), 9);
        owned(bench, 3, 2, 4);
        owned(bench, 256, 3, 5);
        owned(bench, 257);
        wrongOnes(bench);
        tx = new Tx().in(3).back(1).mint(2, 5, -15).redeem(2, Data.i(0)).fee(100).sign(4)
                .pay(Tx.owner(3), Tx.value(0, 0, 200, 2, 5, 25), Data.i(0));
        Check.due("submitTape()", bench.submit(tx), 0);
        Check.due("totalOf(2, 5)", bench.x.totalOf(2, 5), 55);
        Check.due("totalOf(0, 0), with the POT", bench.x.totalOf(0, 0), 6000);
        owned(bench, 3, 2, 4, 6);
        owned(bench, 256, 5);
        bench.x.undoBlocks(0);
        Check.due("totalOf(2, 5)", bench.x.totalOf(2, 5), 0);
        owned(bench, 3, 0, 2);
        owned(bench, 256);
        Check.end();
    }

    private static void owned(Bench bench, int address, int... wants) {
        for (int i = -1; i <= wants.length + 1; i++) {
            int want = i < 0 || i >= wants.length ? -1 : wants[i];
            Check.due("ownedBy(" + address + ", " + i + ")", bench.x.ownedBy(address, i), want);
        }
    }

    private static void wrongOnes(Bench bench) {
        for (int i : new int[] {Integer.MIN_VALUE, Integer.MAX_VALUE}) {
            Check.due("ownedBy(3, " + i + ")", bench.x.ownedBy(3, i), -1);
        }
        for (int address : new int[] {Integer.MIN_VALUE, -1, 255, 288, 512, Integer.MAX_VALUE}) {
            Check.due("ownedBy(" + address + ", 0)", bench.x.ownedBy(address, 0), -1);
        }
        for (int policy : new int[] {Integer.MIN_VALUE, -1, 1, 3, 32, 33, Integer.MAX_VALUE}) {
            Check.due("totalOf(" + policy + ", 5)", bench.x.totalOf(policy, 5), 0);
        }
        for (long name : new long[] {Long.MIN_VALUE, -1, 1, 5, Long.MAX_VALUE}) {
            Check.due("totalOf(0, " + name + ")", bench.x.totalOf(0, name), 0);
        }
        for (long name : new long[] {Long.MIN_VALUE, -2, 0, 4, 6, Long.MAX_VALUE}) {
            Check.due("totalOf(2, " + name + ")", bench.x.totalOf(2, name), 0);
        }
    }
}
