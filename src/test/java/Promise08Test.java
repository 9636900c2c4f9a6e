import java.util.ArrayList;
import java.util.List;

/** Promise 8: undoBlocks. */
public final class Promise08Test {
    public static void main(String[] args) {
        Edge.of("NONE if n is below 0, or more than can be undone", Promise08Test::wrongNumbers);
        Edge.of("So many closed ones can be undone: 0 at first; closing makes this 1 more, up to what the constructor says,"
                + " undoing n less.", Promise08Test::howMany);
        Edge.of("To UNDO n blocks takes back all that the OPEN one", Promise08Test::openBlock);
        Edge.of("and the n last closed ones did; HEIGHT is n less", Promise08Test::severalBlocks);
        Edge.of("and the n last closed ones did", Promise08Test::spentInOtherBlocks);
        Edge.of("SCRIPTS stay, and how often they ran, how many transactions were submitted in all, the STEPS of all runs, and"
                + " what is told of the latest transaction.", Promise08Test::whatStays);
        Edge.of("behind an undoing they go on as if what was undone had not been", Promise08Test::numbersGoOn);
        Edge.of("what is APPLIED or TAKEN goes to the OPEN one", Promise08Test::endowmentsStay);
        Edge.of("up to what the constructor says", Promise08Test::roundAndRound);
        Check.end();
    }

    /** Three closed blocks, of which two can be undone, and something in the OPEN one. */
    private static Bench threeClosed() {
        Bench bench = new Bench(2).endow(5, 1, 1000);
        bench.register(Term.t(1));
        for (int k = 0; k < 4; k++) {
            bench.due("APPLIED", new Tx().in(k).pay(2, 900).fee(100).sign(1), 0);
            if (k < 3) {
                bench.x.closeBlock();
            }
        }
        return bench.give(1, 2, 3);
    }

    private static void wrongNumbers() {
        for (int n : new int[] {-1, 3, 4, -2, 64, 65, Integer.MIN_VALUE, Integer.MAX_VALUE}) {
            Refused.due("undoBlocks(" + n + ")", Promise08Test::threeClosed, bench -> bench.x.undoBlocks(n), -1);
        }
        for (int n = 0; n <= 2; n++) {
            Check.due("undoBlocks(" + n + ")", threeClosed().x.undoBlocks(n), 3 - n);
        }
        Refused.due("undoBlocks(1) at first", () -> new Bench(2).endow(2, 1, 5), bench -> bench.x.undoBlocks(1), -1);
        Bench bench = new Bench(2);
        Check.due("undoBlocks(0) at first", bench.x.undoBlocks(0), 0);
        bench.x.undoBlocks(-1);
        Check.due("endowOwner() is over", bench.x.endowOwner(1, 5), -1);
    }

    private static void howMany() {
        Bench bench = new Bench(2);
        Check.due("undoBlocks(1) at first", bench.x.undoBlocks(1), -1);
        for (int k = 0; k < 3; k++) {
            bench.x.closeBlock();
        }
        Check.due("undoBlocks(3)", bench.x.undoBlocks(3), -1);
        Check.due("undoBlocks(1)", bench.x.undoBlocks(1), 2);
        bench.dueLook("blocks that can be undone", 4, 1);
        Check.due("undoBlocks(2)", bench.x.undoBlocks(2), -1);
        Check.due("undoBlocks(1)", bench.x.undoBlocks(1), 1);
        bench.dueLook("blocks that can be undone", 4, 0);
        Check.due("undoBlocks(1) of what was closed too early", bench.x.undoBlocks(1), -1);
        Check.due("undoBlocks(0)", bench.x.undoBlocks(0), 1);
        bench.dueLook("blocks that can be undone", 4, 0);
        Check.due("closeBlock()", bench.x.closeBlock(), 2);
        bench.dueLook("blocks that can be undone", 4, 1);
        Check.due("undoBlocks(1)", bench.x.undoBlocks(1), 1);
    }

    private static Bench bench() {
        Bench bench = new Bench(4).endow(12, 1, 1000);
        bench.register(Term.lams(3, Term.t(0)));
        bench.register(Term.lams(2, Term.t(1)));
        return bench;
    }

    /** What an undoing takes back; how often scripts ran stays, and STEPS, so they are left out. */
    private static List<Long> undoneState(Bench bench) {
        List<Long> all = bench.ledger();
        int scripts = 2;
        for (int k = 1; k <= scripts; k++) {
            all.set(all.size() - 4 * (k - 1) - 1, 0L);
        }
        all.set(4, 0L);
        all.set(8, 0L);
        return all;
    }

    private static void openBlock() {
        Bench bench = bench();
        bench.due("APPLIED", new Tx().in(0).payScript(0, 900, Data.i(0)).fee(100).sign(1), 0);
        bench.due("TAKEN", new Tx().in(12).back(1).pay(1, 800).fee(100).sign(1), 20);
        bench.dueLook("the POT", 0, 1100);
        Check.due("undoBlocks(0)", bench.x.undoBlocks(0), 0);
        Check.due("all is as before", undoneState(bench).equals(undoneState(bench())), true);
        bench.dueLook("the POT", 0, 0);
        Check.due("outputOf(12, 0)", bench.x.outputOf(12, 0), -1);
        Check.due("coinOf(12, 0, 0) throws", bench.coinThrows(12, 0, 0), true);
        Check.due("datumOf(12, 0)", bench.x.datumOf(12, 0), -1);
        Check.due("ownedBy(256, 0)", bench.x.ownedBy(256, 0), -1);
        Check.due("outputOf(0, 1)", bench.x.outputOf(0, 1), 1);
        Check.due("outputOf(1, 3)", bench.x.outputOf(1, 3), -1);
        bench.due("what was undone is no OUTPUT", new Tx().in(12).back(1).pay(1, 800).fee(100).sign(1), 8);
        bench.due("what was spent can be spent", new Tx().in(0).in(1).pay(3, 1900).fee(100).sign(1), 0);
        Check.due("undoBlocks(0) once more", bench.x.undoBlocks(0), 0);
        bench.dueLook("LIVE ones", 3, 12);
    }

    /** A transaction that is APPLIED, one that is TAKEN, one that MINTS, and one that spends that, from block to block. */
    private static void act(Bench bench, int k) {
        switch (k) {
            case 0:
                bench.due("APPLIED", new Tx().in(0).payScript(0, 900, Data.i(0)).fee(100).sign(1), 0);
                break;
            case 1:
                bench.due("TAKEN", new Tx().in(12).back(1).pay(1, 800).fee(100).sign(1), 20);
                break;
            case 2:
                bench.due("MINT", new Tx().in(2).back(3).mint(2, 5, 6).redeem(2, Data.i(0)).fee(100).sign(1)
                        .pay(Tx.owner(7), Tx.value(0, 0, 900, 2, 5, 6), Data.l()), 0);
                break;
            default:
                bench.due("APPLIED", new Tx().in(13).in(4).fee(100).sign(1, 7)
                        .pay(Tx.owner(7), Tx.value(0, 0, 1800, 2, 5, 6), Data.l()), 0);
                break;
        }
    }

    private static Bench acted(int blocks) {
        Bench bench = bench();
        for (int k = 0; k < blocks; k++) {
            act(bench, k);
            bench.x.closeBlock();
        }
        return bench;
    }

    private static void severalBlocks() {
        for (int n = 0; n <= 4; n++) {
            Bench bench = acted(4);
            bench.due("in the OPEN one", new Tx().in(9).pay(8, 900).fee(100).sign(1), 0);
            Check.due("undoBlocks(" + n + ")", bench.x.undoBlocks(n), 4 - n);
            Check.due("as it was " + n + " blocks before", undoneState(bench).equals(undoneState(acted(4 - n))), true);
            bench.dueLook("blocks that can be undone", 4, 4 - n);
            Check.due("totalOf(2, 5)", bench.x.totalOf(2, 5), n <= 1 ? 6 : 0);
            Check.due("totalOf(0, 0)", bench.x.totalOf(0, 0), 12000);
            Check.due("ownedBy(7, 0)", bench.x.ownedBy(7, 0), n == 0 ? 14 : n == 1 ? 13 : -1);
            Check.due("ownedBy(8, 0)", bench.x.ownedBy(8, 0), -1);
        }
    }

    /** The same can be done once more, and undone once more. */
    private static void doneOnceMore(int n) {
        Bench bench = acted(4);
        bench.x.undoBlocks(n);
        for (int k = 4 - n; k < 4; k++) {
            act(bench, k);
            bench.x.closeBlock();
        }
        Check.due("done once more", undoneState(bench).equals(undoneState(acted(4))), true);
        Check.due("undoBlocks(4)", bench.x.undoBlocks(4), 0);
        bench.dueLook("LIVE ones", 3, 12);
        bench.dueLook("the POT", 0, 0);
    }

    private static void spentInOtherBlocks() {
        for (int n = 0; n <= 4; n++) {
            doneOnceMore(n);
        }
        Bench bench = acted(4);
        // OUTPUT 0 was spent at HEIGHT 0, 1 was TAKEN at 1, 2 was spent at 2, 13 was made at 2 and spent at 3.
        int[] spent = {0, 1, 2, 13};
        for (int n = 0; n < 4; n++) {
            bench.x.undoBlocks(n == 0 ? 0 : 1);
            for (int k = 0; k < spent.length; k++) {
                boolean isMade = spent[k] < 12 || n < 2;
                int at = k < 4 - n ? k : -1;
                Check.due(n + " undone: spent at", bench.x.outputOf(spent[k], 3), isMade ? at : -1);
                Check.due(n + " undone: LIVE", bench.x.outputOf(spent[k], 1), isMade ? at < 0 ? 1 : 0 : -1);
            }
        }
    }

    private static void whatStays() {
        Bench bench = bench();
        act(bench, 0);
        act(bench, 1);
        bench.x.closeBlock();
        bench.register(Term.t(1));
        bench.give(1, 2, 3);
        bench.x.undoBlocks(1);
        bench.dueLook("SCRIPTS", 5, 3);
        bench.dueLook("the TAPE", 6, 3);
        bench.dueLook("submitted", 9, 2);
        bench.dueLook("STEPS", 10, 10);
        bench.dueLook("APPLIED", 7, 0);
        bench.dueLook("TAKEN", 8, 0);
        Check.due("runs", bench.x.scriptOf(0, 3), 1);
        int bytes = new Tx().in(12).back(1).pay(1, 800).fee(100).sign(1).encode().length;
        bench.dueLatest("the latest", 20, -1, 1, 0, 10, 6, 2, bytes);
        bench.x.wipeTape();
        bench.due("to a SCRIPT of what was undone", new Tx().in(0).payScript(2, 900, Data.i(0)).fee(100).sign(1), 0);
    }

    private static void numbersGoOn() {
        Bench bench = bench();
        act(bench, 0);
        bench.x.closeBlock();
        bench.due("APPLIED", new Tx().in(4).pay(3, 400).pay(4, 500).fee(100).sign(1), 0);
        bench.dueLook("OUTPUTS", 2, 15);
        bench.x.undoBlocks(0);
        bench.dueLook("OUTPUTS", 2, 13);
        bench.due("APPLIED", new Tx().in(5).pay(6, 900).fee(100).sign(1), 0);
        Check.due("NUMBER 13 is another one", bench.x.outputOf(13, 0), 6);
        Check.due("its AMOUNT", bench.x.coinOf(13, 0, 2), 900);
        Check.due("NUMBER 14", bench.x.outputOf(14, 0), -1);
        Check.due("ownedBy(6, 0)", bench.x.ownedBy(6, 0), 13);
        Check.due("ownedBy(3, 0)", bench.x.ownedBy(3, 0), -1);
        bench.x.undoBlocks(1);
        bench.due("APPLIED", new Tx().in(6).pay(9, 900).fee(100).sign(1), 0);
        Check.due("NUMBER 12 is another one", bench.x.outputOf(12, 0), 9);
        Check.due("made at", bench.x.outputOf(12, 2), 0);
    }

    private static void endowmentsStay() {
        Bench bench = bench();
        bench.x.closeBlock();
        Check.due("undoBlocks(1)", bench.x.undoBlocks(1), 0);
        bench.dueLook("OUTPUTS", 2, 12);
        Check.due("undoBlocks(0)", bench.x.undoBlocks(0), 0);
        bench.dueLook("LIVE ones", 3, 12);
        Check.due("totalOf(0, 0)", bench.x.totalOf(0, 0), 12000);
        bench.due("all of them", new Tx().in(11).fee(1000).sign(1), 0);
        bench.x.undoBlocks(0);
        bench.dueLook("LIVE ones", 3, 12);
    }

    /** More blocks than can be undone, and back again, to and fro: what was at their beginning is still known. */
    private static void roundAndRound() {
        for (int depth : new int[] {64, 63, 5, 1}) {
            Bench bench = new Bench(depth).endow(18, 1, 100);
            // The POT when each block was opened, by its HEIGHT; each transaction spends the next OUTPUT of 100.
            List<Long> opened = new ArrayList<>(List.of(0L));
            long pot = 0;
            for (int closed : new int[] {70, 66, 10}) {
                for (int k = 1; k <= closed; k++) {
                    if (k % 20 == 5 || k == closed) {
                        bench.due("APPLIED", new Tx().in(pot / 100).fee(100).sign(1), 0);
                        pot += 100;
                    }
                    Check.due("closeBlock()", bench.x.closeBlock(), opened.size());
                    opened.add(pot);
                }
                int n = closed == 10 ? Math.min(depth, 3) : depth;
                opened.subList(opened.size() - n, opened.size()).clear();
                pot = opened.get(opened.size() - 1);
                Check.due("undoBlocks(" + n + ")", bench.x.undoBlocks(n), opened.size() - 1);
                bench.dueLook("the POT", 0, pot);
                bench.dueLook("APPLIED", 7, pot / 100);
                bench.dueLook("LIVE ones", 3, 18 - pot / 100);
            }
        }
    }
}
