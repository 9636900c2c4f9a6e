/** Promise 3: wipeTape. */
public final class Promise03Test {
    public static void main(String[] args) {
        Bench bench = new Bench(1);
        bench.x.wipeTape();
        bench.dueLook("wiped at first", 6, 0);
        bench.give(12, 12, 12);
        bench.dueLook("given", 6, 3);
        bench.x.wipeTape();
        bench.dueLook("wiped", 6, 0);
        Check.due("registerScript() of what came later", bench.register(9, 1), 0);
        bench.give(1, 2, 3);
        bench.x.wipeTape();
        Check.due("endowOwner is not over by it", bench.x.endowOwner(1, 2), 0);
        Check.due("submitTape() of an empty one", bench.x.submitTape(), 1);
        bench.dueLatest("empty", 1, 0, 0, -1, -1, -1, -1, 0);
        Check.end();
    }
}
