/** Promise 3: wipeTape. */
public final class Promise03Test {
    public static void main(String[] args) {
        Edge.of("The TAPE is empty.", Promise03Test::empties);
        Edge.of("The TAPE is empty.", Promise03Test::changesNothingElse);
        Check.end();
    }

    private static void empties() {
        Bench bench = new Bench(1);
        bench.x.wipeTape();
        bench.dueLook("wiped at first", 6, 0);
        bench.give(12, 12, 12);
        bench.dueLook("given", 6, 3);
        bench.x.wipeTape();
        bench.dueLook("wiped", 6, 0);
        bench.x.wipeTape();
        bench.dueLook("wiped twice", 6, 0);
        Check.due("registerScript() of what came later", bench.register(9, 1), 0);
        bench.give(9, 1);
        bench.x.wipeTape();
        Check.due("registerScript() of nothing", bench.x.registerScript(), -1);
        bench.give(0x80);
        bench.x.wipeTape();
        Check.due("submitTape() of nothing", bench.x.submitTape(), 1);
        bench.dueLatest("empty", 1, 0, 0, -1, -1, -1, -1, 0);
    }

    private static Bench used() {
        Bench bench = new Bench(2).endow(2, 1, 1000);
        bench.register(Term.lams(2, Term.t(1)));
        bench.due("APPLIED", new Tx().in(0).pay(2, 900).fee(100).sign(1), 0);
        bench.x.closeBlock();
        return bench;
    }

    private static void changesNothingElse() {
        Bench bench = used();
        bench.give(1, 2, 3);
        bench.x.wipeTape();
        Check.due("all else is as before", bench.everything().equals(used().everything()), true);
        bench = new Bench(1);
        bench.give(1, 2, 3);
        bench.x.wipeTape();
        Check.due("endowOwner() is not over by it", bench.x.endowOwner(1, 2), 0);
    }
}
