import java.util.List;
import java.util.function.Consumer;

/** Calls that are refused, one after the other, in the midst of a ledger's life. */
public final class RefusedCallsTest {
    public static void main(String[] args) {
        Edge.of("What answers false, NONE or below 0, or throws, changes nothing but the TAPE, what is told of the latest"
                + " transaction and of runs, how many were submitted, and that endowOwner() is over.", () -> {
            betweenAll();
            withinBlocks();
            tellsAlone();
            endowingIsOver();
        });
        Edge.of("All others change nothing.", RefusedCallsTest::refusedTapes);
        Check.end();
    }

    /** All that is refused, whatever there is. */
    private static void refuseAll(Bench bench) {
        bench.x.wipeTape();
        Check.due("giveTape(1, 0)", bench.x.giveTape(1, 0), false);
        Check.due("giveTape(1, 9)", bench.x.giveTape(1, 9), false);
        Check.due("registerScript()", bench.register(2, 9, 1, 9, 2), -3);
        Check.due("submitTape()", bench.submit(Data.deep(13)), 4);
        Check.due("submitTape()", bench.submit(new Tx().in(1000).pay(1, 5).fee(100).sign(1)), 8);
        Check.due("submitTape()", bench.submit(new Tx().in(11).pay(1, 5).fee(100).sign(1)), 11);
        Check.due("undoBlocks(-1)", bench.x.undoBlocks(-1), -1);
        Check.due("undoBlocks(65)", bench.x.undoBlocks(65), -1);
        Check.due("endowOwner(1, 5)", bench.x.endowOwner(1, 5), -1);
        Check.due("outputOf(1000, 0)", bench.x.outputOf(1000, 0), -1);
        Check.due("coinOf(0, 8, 0) throws", bench.coinThrows(0, 8, 0), true);
        Check.due("datumOf(0, 1)", bench.x.datumOf(0, 1), -1);
        Check.due("ownedBy(300, 0)", bench.x.ownedBy(300, 0), -1);
        Check.due("latestOf(8)", bench.x.latestOf(8), -1);
        Check.due("scriptOf(32, 0)", bench.x.scriptOf(32, 0), -1);
        Check.due("lookAt(11)", bench.x.lookAt(11), -1);
    }

    /** Transactions of all sorts, blocks that are closed and undone; something comes in between. */
    private static Bench live(Consumer<Bench> between) {
        Bench bench = new Bench(2).endow(12, 1, 1000);
        bench.register(Term.lams(3, Term.t(0)));
        bench.register(Term.lams(2, Term.t(1)));
        bench.due("APPLIED", new Tx().in(0).payScript(0, 900, Data.i(0)).fee(100).sign(1), 0);
        between.accept(bench);
        bench.x.closeBlock();
        bench.due("TAKEN", new Tx().in(12).back(1).pay(1, 800).fee(100).sign(1), 20);
        between.accept(bench);
        bench.x.closeBlock();
        bench.due("MINT", new Tx().in(2).back(3).mint(2, 5, 6).redeem(2, Data.i(0)).fee(100).sign(1)
                .pay(Tx.owner(7), Tx.value(0, 0, 900, 2, 5, 6), Data.l()), 0);
        between.accept(bench);
        return bench;
    }

    private static void betweenAll() {
        Bench asked = live(RefusedCallsTest::refuseAll);
        Bench other = live(bench -> { });
        Check.due("the ledger is the same", asked.ledger().equals(other.ledger()), true);
        Check.due("totalOf(2, 5)", asked.x.totalOf(2, 5), 6);
        asked.dueLook("submitted", 9, 3 + 9);
        other.dueLook("submitted", 9, 3);
    }

    /** What the OPEN block did, and how far can be undone, is the same, too. */
    private static void withinBlocks() {
        for (int n = 0; n <= 2; n++) {
            Bench asked = live(RefusedCallsTest::refuseAll);
            Bench other = live(bench -> { });
            Check.due("undoBlocks(" + n + ")", asked.x.undoBlocks(n), 2 - n);
            Check.due("undoBlocks(" + n + ")", other.x.undoBlocks(n), 2 - n);
            Check.due("the ledger is the same", asked.ledger().equals(other.ledger()), true);
            Check.due("none more", asked.x.undoBlocks(3 - n), -1);
        }
    }

    /** What looks alone changes nothing at all, whatever it answers. */
    private static void tellsAlone() {
        Bench asked = live(bench -> { });
        Bench other = live(bench -> { });
        asked.give(1, 2, 3);
        other.give(1, 2, 3);
        for (int number : new int[] {-1, 0, 12, 14}) {
            asked.x.outputOf(number, 9);
            asked.coinThrows(number, -1, 9);
            asked.coinThrows(number, 0, 0);
            asked.x.datumOf(number, 0);
            asked.x.ownedBy(number, 0);
            asked.x.latestOf(number);
            asked.x.scriptOf(number, number);
            asked.x.lookAt(number);
            asked.x.totalOf(number, number);
        }
        Check.due("all is the same", asked.everything().equals(other.everything()), true);
    }

    private static void endowingIsOver() {
        Bench bench = new Bench(1).endow(1, 1, 100);
        Check.due("giveTape(1, 0)", bench.x.giveTape(1, 0), false);
        Check.due("registerScript()", bench.x.registerScript(), -1);
        Check.due("endowOwner(256, 5)", bench.x.endowOwner(256, 5), -1);
        Check.due("coinOf(5, 0, 0) throws", bench.coinThrows(5, 0, 0), true);
        Check.due("lookAt(11)", bench.x.lookAt(11), -1);
        Check.due("endowOwner(1, 5), not over yet", bench.x.endowOwner(1, 5), 1);
        Check.due("undoBlocks(1)", bench.x.undoBlocks(1), -1);
        Check.due("endowOwner(1, 5), over", bench.x.endowOwner(1, 5), -1);
        bench.dueLook("OUTPUTS", 2, 2);
    }

    /** One VERDICT after the other, on one object. */
    private static void refusedTapes() {
        Bench bench = live(some -> { });
        List<Long> before = bench.ledger();
        int[] verdicts = {1, 2, 3, 4, 5, 6, 7, 8, 9, 10, 11, 12, 13, 14};
        byte[][] tapes = {{}, {0x18, 1}, {0x60}, Data.deep(13).encode(), Data.wide(201).encode(), {0, 0}, {0},
            new Tx().in(0).fee(1000).sign(1).encode(), new Tx().in(4).fee(1000).sign(1).valid(3, 9).encode(),
            new Tx().in(4).fee(12).pay(1, 988).sign(1).encode(), new Tx().in(4).fee(999).sign(1).encode(),
            new Tx().in(4).fee(1000).sign(2).encode(), new Tx().in(12).fee(900).sign(1).encode(),
            new Tx().in(4).fee(999).pay(1, 1).sign(1).encode()};
        for (int k = 0; k < verdicts.length; k++) {
            Check.due("a VERDICT", bench.submit(tapes[k]), verdicts[k]);
            Check.due("latestOf(0)", bench.x.latestOf(0), verdicts[k]);
            bench.dueLook("submitted", 9, 4 + k);
        }
        Check.due("nothing changes", bench.ledger().equals(before), true);
    }
}
