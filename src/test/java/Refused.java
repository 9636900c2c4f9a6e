import java.util.function.Supplier;
import java.util.function.ToLongFunction;

/** What is refused changes nothing but what the document names: an object that it was not asked of is the same. */
final class Refused {
    private Refused() {
    }

    /** A call that changes nothing at all. */
    static void due(String what, Supplier<Bench> start, ToLongFunction<Bench> call, long answer) {
        Bench asked = start.get();
        Check.due(what, call.applyAsLong(asked), answer);
        Check.due(what + ": nothing changes", asked.everything().equals(start.get().everything()), true);
    }

    /** registerScript() below 0: the TAPE is empty then. */
    static void dueScript(String what, Supplier<Bench> start, byte[] tape, int answer) {
        Bench asked = start.get();
        asked.give(tape);
        Check.due(what, asked.x.registerScript(), answer);
        asked.dueLook(what + ", the TAPE", 6, 0);
        Check.due(what + ": nothing changes", asked.everything().equals(start.get().everything()), true);
    }

    /** submitTape() with a VERDICT 1 .. 16: no run, no change of the ledger; endowOwner() is over. */
    static void dueTape(String what, Supplier<Bench> start, byte[] tape, int verdict, int place) {
        Bench asked = start.get();
        Bench other = start.get();
        asked.give(tape);
        Check.due(what, asked.x.submitTape(), verdict);
        asked.dueLatest(what, verdict, place, 0, -1, -1, -1, -1, tape.length);
        asked.dueLook(what + ", the TAPE", 6, 0);
        asked.dueLook(what + ", submitted", 9, other.x.lookAt(9) + 1);
        Check.due(what + ": nothing changes", asked.ledger().equals(other.ledger()), true);
        Check.due(what + ": endowOwner() is over", asked.x.endowOwner(1, 2), -1);
    }

    static void dueTx(String what, Supplier<Bench> start, Tx tx, int verdict) {
        dueTape(what, start, tx.encode(), verdict, -1);
    }
}
