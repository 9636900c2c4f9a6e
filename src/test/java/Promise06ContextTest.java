import java.util.ArrayList;
import java.util.List;

/** Promise 6, CONTEXT: a script that accepts one CONTEXT alone, which its REDEEMER tells. */
public final class Promise06ContextTest {
    public static void main(String[] args) {
        ofAPolicy();
        ofAnInput();
        ofSeveral();
        fullTape();
        Check.end();
    }

    /** All fields of the CONTEXT are those of the REDEEMER, a LIST. */
    private static Term fieldsAre(int context, int redeemer) {
        return Term.fn(17, Term.fn(20, Term.v(context)), Term.v(redeemer));
    }

    private static void ofAPolicy() {
        Data address = Tx.owner(200);
        Data validity = Data.l(Data.i(-5), Data.i(70));
        for (int wrong = -1; wrong < 8; wrong++) {
            Bench bench = new Bench(1);
            bench.x.endowOwner(4, 5000);
            bench.x.endowOwner(2, 10000);
            bench.x.endowOwner(4, 700);
            bench.register(Term.t(1));
            bench.register(Term.lams(2, fieldsAre(1, 2)));
            List<Data> fields = new ArrayList<>(List.of(Data.i(1), Data.i(2), Data.i(300), validity,
                    Data.l(Data.i(2), Data.i(4), Data.i(9)), Tx.value(2, -3, 8), Tx.value(0, 0, 5700),
                    Data.l(Data.c(0, address, Data.i(5000)), Data.c(0, Tx.script(1), Data.i(400)))));
            if (wrong >= 0) {
                fields.set(wrong, Data.i(12345));
            }
            Tx tx = new Tx().in(0, Data.deep(3)).in(2).back(1).fee(300).valid(-5, 70).mint(2, -3, 8)
                    .redeem(2, Data.l(fields)).sign(2, 4, 9).pay(address, Tx.value(0, 0, 5000, 2, -3, 8), Data.b(1))
                    .payScript(1, 400, Data.i(9));
            Check.due("field " + wrong + " is another one", bench.submit(tx), wrong < 0 ? 0 : 20);
            Check.due("it did not fail", bench.x.latestOf(3), 0);
        }
    }

    /** With a DATUM, and KINDS of several INPUTS that come together. */
    private static void ofAnInput() {
        Bench bench = new Bench(1);
        bench.x.endowOwner(4, 5000);
        bench.x.endowOwner(2, 10000);
        bench.x.endowOwner(4, 700);
        bench.register(Term.lams(2, Term.t(1)));
        bench.register(Term.lams(3, fieldsAre(1, 2)));
        Tx tx = new Tx().in(0).back(1).fee(100).sign(2, 4);
        tx.mint(1, 7, 20).mint(1, -1, 30).redeem(1, Data.i(0));
        tx.pay(Tx.script(1), Tx.value(0, 0, 3000, 1, 7, 5, 1, -1, 30), Data.i(0));
        tx.pay(Tx.owner(4), Tx.value(0, 0, 1900, 1, 7, 15), Data.i(0));
        Check.due("to the SCRIPT", bench.submit(tx), 0);
        List<Data> fields = List.of(Data.i(0), Data.i(3), Data.i(500), Data.l(Data.i(0), Data.i(9)),
                Data.l(Data.i(2), Data.i(4)), Data.l(), Tx.value(0, 0, 5600, 1, 7, 20, 1, -1, 30),
                Data.l(Data.c(0, Tx.owner(0), Data.i(5100))));
        tx = new Tx().in(4).in(3, Data.l(fields)).in(2).back(1).fee(500).valid(0, 9).sign(2, 4)
                .pay(Tx.owner(0), Tx.value(0, 0, 5100, 1, 7, 20, 1, -1, 30), Data.i(0));
        Check.due("the CONTEXT of OUTPUT 3", bench.submit(tx), 0);
        bench.dueLatest("one run", 0, -1, 1, 0);
    }

    /** Each run has a CONTEXT of its own. */
    private static void ofSeveral() {
        Bench bench = new Bench(1);
        bench.x.endowOwner(1, 9000);
        bench.x.endowOwner(1, 10000);
        // The kind and the NUMBER are as the REDEEMER says.
        Term list = Term.fn(20, Term.v(1));
        Term kind = Term.fn(17, Term.fn(26, list), Term.fn(26, Term.v(2)));
        Term number = Term.fn(17, Term.fn(26, Term.fn(27, list)), Term.fn(26, Term.fn(27, Term.v(2))));
        Term body = Term.fn(16, kind, number, Term.t(0));
        bench.register(Term.lams(3, body));
        bench.register(Term.lams(2, body));
        bench.register(Term.lams(2, body));
        Check.due("to the SCRIPT", bench.submit(new Tx().in(0).fee(1000).sign(1).payScript(0, 4000, Data.i(0))
                .payScript(0, 4000, Data.i(0))), 0);
        Tx tx = new Tx().in(3, Data.l(Data.i(0), Data.i(3))).in(2, Data.l(Data.i(0), Data.i(2))).back(1).fee(1000).sign(1)
                .mint(2, 0, 1).mint(2, 1, 1).mint(3, 0, 1)
                .redeem(2, Data.l(Data.i(1), Data.i(2))).redeem(3, Data.l(Data.i(1), Data.i(3)))
                .pay(Tx.owner(1), Tx.value(0, 0, 7000, 2, 0, 1, 2, 1, 1, 3, 0, 1), Data.i(0));
        Check.due("four scripts", bench.submit(tx), 0);
        bench.dueLatest("four runs", 0, -1, 4, 0);
        Check.due("runs of SCRIPT 0", bench.x.scriptOf(0, 3), 2);
        Check.due("a POLICY runs once", bench.x.scriptOf(1, 3), 1);
        Check.due("runs of SCRIPT 2", bench.x.scriptOf(2, 3), 1);
    }

    private static Data rowOf(int value) {
        byte[] row = new byte[64];
        java.util.Arrays.fill(row, (byte) value);
        return Data.bytesOf(row);
    }

    private static Term both(Term one, Term other) {
        return Term.fn(16, one, other, Term.t(0));
    }

    /** BYTES of a full TAPE, of a DATUM, of a script and of results are there at once. */
    private static void fullTape() {
        Data datum = Data.l(rowOf(1), Data.bs(59));
        Data last = rowOf(61);
        Term joined = Term.fn(14, Term.fn(10, Term.s(1, 2), Term.s(3)), Term.fn(10, Term.s(1), Term.s(2, 3)));
        Term isLast = Term.fn(17, Term.fn(26, Term.fn(27, Term.v(2))), Term.make(last));
        Bench bench = new Bench(1);
        bench.x.endowOwner(1, 9000);
        bench.x.endowOwner(1, 10000);
        bench.register(Term.lams(3, both(joined, both(Term.fn(17, Term.v(3), Term.make(datum)), isLast))));
        bench.register(Term.lams(2, both(joined, isLast)));
        Check.due("to the SCRIPT", bench.submit(new Tx().in(0).fee(1000).sign(1).payScript(0, 8000, datum)), 0);
        Data[] rows = new Data[58];
        java.util.Arrays.fill(rows, rowOf(5));
        Data redeemer = Data.l(Data.l(rows), last);
        Tx tx = new Tx().in(2, Data.l(Data.i(0), last)).back(1).fee(1000).sign(1).mint(2, 0, 1).redeem(2, redeemer)
                .pay(Tx.owner(1), Tx.value(0, 0, 7000, 2, 0, 1), Data.i(0));
        Check.due("the TAPE is nearly full", tx.encode().length > 4000, true);
        Check.due("all are as they were given", bench.submit(tx), 0);
        bench.dueLatest("both ran", 0, -1, 2, 0);
    }
}
