/** Promise 7: closeBlock. */
public final class Promise07Test {
    public static void main(String[] args) {
        Bench bench = new Bench(3);
        bench.x.endowOwner(1, 1000);
        bench.x.endowOwner(1, 1000);
        bench.give(1, 2, 3);
        for (int n = 1; n <= 200; n++) {
            Check.due("closeBlock()", bench.x.closeBlock(), n);
            bench.dueLook("HEIGHT", 1, n);
            bench.dueLook("blocks that can be undone", 4, Math.min(n, 3));
        }
        bench.dueLook("the TAPE stays", 6, 3);
        bench.x.wipeTape();
        Check.due("a transaction at HEIGHT 200",
                bench.submit(new Tx().in(0).pay(2, 900).fee(100).valid(200, 200).sign(1)), 0);
        Check.due("made at", bench.x.outputOf(2, 2), 200);
        Check.due("spent at", bench.x.outputOf(0, 3), 200);
        Check.due("closeBlock()", bench.x.closeBlock(), 201);
        Check.due("made at, still", bench.x.outputOf(2, 2), 200);
        bench.dueLatest("what is told stays", 0, -1, 0);
        bench.dueLook("the POT stays", 0, 100);
        bench.dueLook("APPLIED stays", 7, 1);
        Check.due("endowOwner is over", bench.x.endowOwner(1, 5), -1);
        Check.end();
    }
}
