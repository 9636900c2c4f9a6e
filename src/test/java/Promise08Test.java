import java.util.ArrayList;
import java.util.List;

/** Promise 8: undoBlocks. */
public final class Promise08Test {
    public static void main(String[] args) {
        wrongNumbers();
        openBlock();
        severalBlocks();
        whatStays();
        numbersGoOn();
        endowmentsStay();
        roundAndRound();
        Check.end();
    }

    private static void wrongNumbers() {
        Bench bench = new Bench(2);
        Check.due("undoBlocks(1) at first", bench.x.undoBlocks(1), -1);
        bench.x.closeBlock();
        bench.x.closeBlock();
        bench.x.closeBlock();
        for (int n : new int[] {Integer.MIN_VALUE, -1, 3, 4, Integer.MAX_VALUE}) {
            Check.due("undoBlocks(" + n + ")", bench.x.undoBlocks(n), -1);
            bench.dueLook("HEIGHT", 1, 3);
            bench.dueLook("blocks that can be undone", 4, 2);
        }
        Check.due("undoBlocks(1)", bench.x.undoBlocks(1), 2);
        bench.dueLook("blocks that can be undone", 4, 1);
        Check.due("undoBlocks(2)", bench.x.undoBlocks(2), -1);
        Check.due("undoBlocks(1)", bench.x.undoBlocks(1), 1);
        Check.due("undoBlocks(1) of what was closed too early", bench.x.undoBlocks(1), -1);
        Check.due("undoBlocks(0)", bench.x.undoBlocks(0), 1);
        Check.due("closeBlock()", bench.x.closeBlock(), 2);
        bench.dueLook("blocks that can be undone", 4, 1);
    }

    private static Bench bench() {
        Bench bench = new Bench(4);
        for (int k = 0; k < 12; k++) {
            bench.x.endowOwner(1, 1000);
        }
        bench.register(Term.lams(3, Term.t(0)));
        bench.register(Term.lams(2, Term.t(1)));
        return bench;
    }

    private static void openBlock() {
        Bench bench = bench();
        List<Long> before = bench.state();
        Check.due("APPLIED", bench.submit(new Tx().in(0).payScript(0, 900, Data.i(0)).fee(100).sign(1)), 0);
        Check.due("TAKEN", bench.submit(new Tx().in(12).back(1).pay(1, 800).fee(100).sign(1)), 20);
        bench.dueLook("the POT", 0, 1100);
        Check.due("undoBlocks(0)", bench.x.undoBlocks(0), 0);
        Check.due("all is as before", bench.state().equals(before), true);
        bench.dueLook("the POT", 0, 0);
        Check.due("outputOf(12, 0)", bench.x.outputOf(12, 0), -1);
        Check.due("outputOf(0, 1)", bench.x.outputOf(0, 1), 1);
        Check.due("outputOf(1, 3)", bench.x.outputOf(1, 3), -1);
    }

    /** A transaction that is APPLIED, one that is TAKEN, and one that MINTS, from block to block. */
    private static void act(Bench bench, int k) {
        int made = (int) bench.x.lookAt(2);
        switch (k) {
            case 0:
                Check.due("APPLIED", bench.submit(new Tx().in(0).payScript(0, 900, Data.i(0)).fee(100).sign(1)), 0);
                break;
            case 1:
                Check.due("TAKEN", bench.submit(new Tx().in(12).back(1).pay(1, 800).fee(100).sign(1)), 20);
                break;
            case 2:
                Check.due("MINT", bench.submit(new Tx().in(2).back(3).mint(2, 5, 6).redeem(2, Data.i(0)).fee(100).sign(1)
                        .pay(Tx.owner(7), Tx.value(0, 0, 900, 2, 5, 6), Data.l())), 0);
                break;
            default:
                Check.due("APPLIED", bench.submit(new Tx().in(made - 1).in(4).fee(100).sign(1, 7)
                        .pay(Tx.owner(7), Tx.value(0, 0, 1800, 2, 5, 6), Data.l())), 0);
                break;
        }
    }

    private static void severalBlocks() {
        for (int n = 0; n <= 4; n++) {
            Bench bench = bench();
            List<List<Long>> states = new ArrayList<>();
            List<Long> totals = new ArrayList<>();
            for (int k = 0; k < 4; k++) {
                states.add(withoutUndoable(bench));
                totals.add(bench.x.totalOf(2, 5));
                act(bench, k);
                bench.x.closeBlock();
            }
            states.add(withoutUndoable(bench));
            totals.add(bench.x.totalOf(2, 5));
            Check.due("in the OPEN one", bench.submit(new Tx().in(9).pay(8, 900).fee(100).sign(1)), 0);
            Check.due("undoBlocks(" + n + ")", bench.x.undoBlocks(n), 4 - n);
            Check.due("as it was " + n + " blocks before", withoutUndoable(bench).equals(states.get(4 - n)), true);
            Check.due("totalOf(2, 5)", bench.x.totalOf(2, 5), totals.get(4 - n));
            Check.due("totalOf(0, 0)", bench.x.totalOf(0, 0), 12000);
            bench.dueLook("blocks that can be undone", 4, 4 - n);
            // The same can be done once more.
            for (int k = 4 - n; k < 4; k++) {
                act(bench, k);
                bench.x.closeBlock();
            }
            Check.due("done once more", withoutUndoable(bench).equals(states.get(4)), true);
        }
    }

    private static List<Long> withoutUndoable(Bench bench) {
        List<Long> all = bench.state();
        all.remove(4);
        return all;
    }

    private static void whatStays() {
        Bench bench = bench();
        act(bench, 0);
        act(bench, 1);
        bench.x.closeBlock();
        bench.register(Term.t(1));
        bench.give(1, 2, 3);
        bench.x.undoBlocks(1);
        bench.dueLook("SCRIPTS", 5, 3);
        bench.dueLook("the TAPE", 6, 3);
        bench.dueLook("submitted", 9, 2);
        bench.dueLook("STEPS", 10, 10);
        bench.dueLook("APPLIED", 7, 0);
        bench.dueLook("TAKEN", 8, 0);
        Check.due("runs", bench.x.scriptOf(0, 3), 1);
        bench.dueLatest("the latest", 20, -1, 1, 0, 10, 6, 2);
    }

    private static void numbersGoOn() {
        Bench bench = bench();
        act(bench, 0);
        bench.x.closeBlock();
        Check.due("APPLIED", bench.submit(new Tx().in(4).pay(3, 400).pay(4, 500).fee(100).sign(1)), 0);
        bench.x.undoBlocks(0);
        Check.due("APPLIED", bench.submit(new Tx().in(5).pay(6, 900).fee(100).sign(1)), 0);
        Check.due("NUMBER 13 is another one", bench.x.outputOf(13, 0), 6);
        Check.due("NUMBER 14", bench.x.outputOf(14, 0), -1);
        Check.due("ownedBy(6, 0)", bench.x.ownedBy(6, 0), 13);
        Check.due("ownedBy(3, 0)", bench.x.ownedBy(3, 0), -1);
    }

    private static void endowmentsStay() {
        Bench bench = bench();
        bench.x.closeBlock();
        Check.due("undoBlocks(1)", bench.x.undoBlocks(1), 0);
        bench.dueLook("OUTPUTS", 2, 12);
        Check.due("undoBlocks(0)", bench.x.undoBlocks(0), 0);
        bench.dueLook("LIVE ones", 3, 12);
        Check.due("totalOf(0, 0)", bench.x.totalOf(0, 0), 12000);
    }

    /** More blocks than can be undone, many times: what was at their beginning is still known. */
    private static void roundAndRound() {
        Bench bench = new Bench(64);
        for (int k = 0; k < 400; k++) {
            bench.x.endowOwner(1, 100);
        }
        long[] pots = new long[500];
        int height = 0;
        int next = 0;
        for (int round = 0; round < 5; round++) {
            for (int k = 0; k < 70; k++) {
                pots[height] = bench.x.lookAt(0);
                if (k % 3 == 0) {
                    Check.due("APPLIED", bench.submit(new Tx().in(bench.x.ownedBy(1, 0)).fee(100).sign(1)), 0);
                }
                height++;
                Check.due("closeBlock()", bench.x.closeBlock(), height);
            }
            int n = round % 2 == 0 ? 64 : 1 + next;
            next += 7;
            height -= n;
            Check.due("undoBlocks(" + n + ")", bench.x.undoBlocks(n), height);
            bench.dueLook("the POT", 0, pots[height]);
            bench.dueLook("APPLIED", 7, pots[height] / 100);
            bench.dueLook("LIVE ones", 3, 400 - pots[height] / 100);
        }
    }
}
