/** Promises 14, 15, 16: latestOf, scriptOf, lookAt. */
public final class Promise14To16Test {
    public static void main(String[] args) {
        Bench bench = new Bench(2);
        bench.x.endowOwner(1, 10000);
        bench.x.endowOwner(1, 10000);
        bench.x.endowOwner(1, 10000);
        none(bench);
        Term accepts = Term.lams(2, Term.t(1));
        Term fails = Term.lams(2, Term.app(Term.error(), Term.ss(64)));
        bench.register(accepts);
        bench.register(fails);
        none(bench);
        latest(bench);
        scripts(bench, accepts, fails);
        looks(bench);
        Check.end();
    }

    private static void none(Bench bench) {
        for (int which : new int[] {Integer.MIN_VALUE, -1, 0, 1, 2, 3, 4, 5, 6, 7, 8, Integer.MAX_VALUE}) {
            Check.due("latestOf(" + which + ") without one", bench.x.latestOf(which), -1);
        }
    }

    private static void latest(Bench bench) {
        bench.submit(Data.i(5));
        bench.dueLatest("no TRANSACTION", 7, -1, 0, -1, -1, -1, -1, 1);
        bench.submit(Data.b(0x82, 0).bytes());
        bench.dueLatest("the TAPE ends", 1, 2, 0, -1, -1, -1, -1, 2);
        bench.submit(Data.b(0, 0).bytes());
        bench.dueLatest("bytes are left", 6, -1, 0, -1, -1, -1, -1, 2);
        Tx tx = new Tx().in(0).back(1).mint(1, 0, 5).redeem(1, Data.i(0)).fee(100).sign(1)
                .pay(Tx.owner(1), Tx.value(0, 0, 9900, 1, 0, 5), Data.i(0));
        bench.submit(tx);
        bench.dueLatest("accepted", 0, -1, 1, 0, 7, 4, 2, tx.encode().length);
        tx = new Tx().in(3).back(1).mint(1, 0, 5).mint(2, 0, 5).redeem(1, Data.i(0)).redeem(2, Data.i(0)).fee(100)
                .sign(1).pay(Tx.owner(1), Tx.value(0, 0, 9800, 1, 0, 10, 2, 0, 5), Data.i(0));
        bench.submit(tx);
        bench.dueLatest("not accepted", 20, -1, 2, 1, 8, 4, -1, tx.encode().length);
        for (int which : new int[] {Integer.MIN_VALUE, -1, 8, 9, Integer.MAX_VALUE}) {
            Check.due("latestOf(" + which + ")", bench.x.latestOf(which), -1);
        }
        bench.give(1, 2, 3);
        bench.x.wipeTape();
        bench.x.registerScript();
        bench.x.closeBlock();
        bench.x.undoBlocks(5);
        bench.dueLatest("other calls do not count", 20, -1, 2, 1, 8, 4, -1, tx.encode().length);
        tx = new Tx().in(2).pay(1, 9000).fee(1000).sign(1);
        bench.submit(tx);
        bench.dueLatest("without a run", 0, -1, 0, -1, -1, -1, -1, tx.encode().length);
    }

    private static void scripts(Bench bench, Term accepts, Term fails) {
        int[][] wants = {{3, 3, accepts.encode().length, 2}, {5, 4, fails.encode().length, 1}};
        for (int script = 0; script < 2; script++) {
            for (int what = 0; what < 4; what++) {
                Check.due("scriptOf(" + script + ", " + what + ")", bench.x.scriptOf(script, what), wants[script][what]);
            }
            for (int what : new int[] {Integer.MIN_VALUE, -1, 4, Integer.MAX_VALUE}) {
                Check.due("scriptOf(" + script + ", " + what + ")", bench.x.scriptOf(script, what), -1);
            }
        }
        for (int script : new int[] {Integer.MIN_VALUE, -1, 2, 31, 32, Integer.MAX_VALUE}) {
            for (int what = -1; what < 5; what++) {
                Check.due("scriptOf(" + script + ", " + what + ")", bench.x.scriptOf(script, what), -1);
            }
        }
    }

    private static void looks(Bench bench) {
        bench.give(1, 2, 3);
        long[] wants = {100 + 10000 + 1000, 1, 5, 2, 1, 2, 3, 2, 1, 6, 7 + 7 + 8};
        for (int which = 0; which < wants.length; which++) {
            bench.dueLook("at the end", which, wants[which]);
        }
        for (int which : new int[] {Integer.MIN_VALUE, -1, 11, 12, Integer.MAX_VALUE}) {
            bench.dueLook("no such which", which, -1);
        }
        bench.x.undoBlocks(1);
        wants = new long[] {0, 0, 3, 3, 0, 2, 3, 0, 0, 6, 22};
        for (int which = 0; which < wants.length; which++) {
            bench.dueLook("undone", which, wants[which]);
        }
    }
}
