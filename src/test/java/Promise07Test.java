import java.util.List;

/** Promise 7: closeBlock. */
public final class Promise07Test {
    public static void main(String[] args) {
        Edge.of("Closes the OPEN block: HEIGHT.", Promise07Test::height);
        Edge.of("to close it makes HEIGHT (0 at first) 1 more, and another one, without anything, is OPEN",
                Promise07Test::anotherIsOpen);
        Edge.of("closing makes this 1 more, up to what the constructor says", Promise07Test::undoable);
        Check.end();
    }

    private static void height() {
        Bench bench = new Bench(3).endow(2, 1, 1000);
        bench.give(1, 2, 3);
        bench.dueLook("HEIGHT at first", 1, 0);
        for (int n = 1; n <= 150; n++) {
            Check.due("closeBlock()", bench.x.closeBlock(), n);
            bench.dueLook("HEIGHT", 1, n);
        }
        bench.dueLook("the TAPE stays", 6, 3);
        bench.x.wipeTape();
        bench.due("a transaction at HEIGHT 150", new Tx().in(0).pay(2, 900).fee(100).valid(150, 150).sign(1), 0);
        Check.due("made at", bench.x.outputOf(2, 2), 150);
        Check.due("spent at", bench.x.outputOf(0, 3), 150);
        Check.due("closeBlock()", bench.x.closeBlock(), 151);
        Check.due("made at, still", bench.x.outputOf(2, 2), 150);
        Check.due("spent at, still", bench.x.outputOf(0, 3), 150);
    }

    private static Bench used() {
        Bench bench = new Bench(3).endow(2, 1, 1000);
        bench.register(Term.lams(2, Term.t(1)));
        bench.due("APPLIED", new Tx().in(0).pay(2, 900).fee(100).sign(1), 0);
        return bench.give(5, 5);
    }

    private static void anotherIsOpen() {
        Bench bench = used();
        Check.due("closeBlock()", bench.x.closeBlock(), 1);
        List<Long> behind = bench.everything();
        List<Long> ahead = used().everything();
        // HEIGHT and how many can be undone are the second and the fifth of these.
        Check.due("HEIGHT", behind.set(1, 0L), 1);
        Check.due("blocks that can be undone", behind.set(4, 0L), 1);
        Check.due("all else is as before", behind.equals(ahead), true);
        bench.x.undoBlocks(0);
        bench.dueLook("nothing was in the OPEN one", 2, 3);
        bench.dueLook("the POT", 0, 100);
        bench.dueLook("APPLIED", 7, 1);
    }

    private static void undoable() {
        for (int depth : new int[] {1, 2, 5}) {
            Bench bench = new Bench(depth);
            bench.dueLook("at first", 4, 0);
            for (int n = 1; n <= depth + 2; n++) {
                bench.x.closeBlock();
                bench.dueLook("closed " + n + " of depth " + depth, 4, Math.min(n, depth));
            }
            bench.x.undoBlocks(1);
            bench.dueLook("one undone", 4, depth - 1);
            bench.x.closeBlock();
            bench.dueLook("closed again", 4, depth);
            bench.x.closeBlock();
            bench.dueLook("and once more", 4, depth);
        }
    }
}
