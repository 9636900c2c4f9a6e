import java.util.ArrayList;
import java.util.Arrays;
import java.util.List;

/** Promise 6, CONTEXT: a script that accepts one CONTEXT alone, which its REDEEMER tells. */
public final class Promise06ContextTest {
    public static void main(String[] args) {
        Edge.of("CONTEXT, for each script that is to run: CONSTRUCTOR 0 of: an INTEGER, 0 for an INPUT, 1 for a POLICY",
                Promise06ContextTest::ofAPolicy);
        Edge.of("CONSTRUCTOR 0 of", Promise06ContextTest::allWithin);
        Edge.of("an INTEGER, the NUMBER or POLICY", Promise06ContextTest::ofSeveral);
        Edge.of("FEE; VALIDITY; SIGNERS; MINT, as they are in the TRANSACTION", Promise06ContextTest::asTheyAre);
        Edge.of("SPENT, a LIST like a VALUE (of any length) of all that the INPUTS have together",
                Promise06ContextTest::spentTogether);
        Edge.of("(of any length)", Promise06ContextTest::spentOfAnyLength);
        Edge.of("PAID, a LIST of a CONSTRUCTOR 0 for each OUTPUT, of its ADDRESS and an INTEGER, its BASE.",
                Promise06ContextTest::paid);
        bytesOfAllKinds();
        bytesOfResults();
        Check.end();
    }

    /** All fields of the CONTEXT are those of the REDEEMER, a LIST. */
    private static Term fieldsAre(int context, int redeemer) {
        return Term.fn(17, Term.fn(20, Term.v(context)), Term.v(redeemer));
    }

    private static final Data VALIDITY = Data.l(Data.i(-5), Data.i(70));

    /** The fields of the CONTEXT of POLICY 2. */
    private static List<Data> fieldsOfPolicy() {
        return new ArrayList<>(List.of(Data.i(1), Data.i(2), Data.i(300), VALIDITY,
                Data.l(Data.i(2), Data.i(4), Data.i(9)), Tx.value(2, -3, 8), Tx.value(0, 0, 5700),
                Data.l(Data.c(0, Tx.owner(200), Data.i(5000)), Data.c(0, Tx.script(1), Data.i(400)))));
    }

    private static int runPolicy(Term body, Data redeemer) {
        Bench bench = new Bench(1).endow(1, 4, 5000).endow(1, 2, 10000).endow(1, 4, 700);
        bench.register(Term.t(1));
        bench.register(Term.lams(2, body));
        int verdict = bench.submit(new Tx().in(0, Data.deep(3)).in(2).back(1).fee(300).valid(-5, 70).mint(2, -3, 8)
                .redeem(2, redeemer).sign(2, 4, 9).pay(Tx.owner(200), Tx.value(0, 0, 5000, 2, -3, 8), Data.b(1))
                .payScript(1, 400, Data.i(9)));
        Check.due("it did not fail", bench.x.latestOf(3), 0);
        return verdict;
    }

    private static void ofAPolicy() {
        Check.due("all fields", runPolicy(fieldsAre(1, 2), Data.l(fieldsOfPolicy())), 0);
        for (int wrong = 0; wrong < 8; wrong++) {
            List<Data> fields = fieldsOfPolicy();
            fields.set(wrong, Data.i(12345));
            Check.due("field " + wrong + " is another one", runPolicy(fieldsAre(1, 2), Data.l(fields)), 20);
        }
    }

    /** Each NODE of it can be come to, and is what it has to be. */
    private static void allWithin() {
        dueWithin(Term.v(1), Data.c(0, fieldsOfPolicy()));
    }

    private static void dueWithin(Term there, Data want) {
        Check.due("a part of the CONTEXT", runPolicy(Term.fn(17, there, Term.v(2)), want), 0);
        Check.due("and no other", runPolicy(Term.fn(17, there, Term.v(2)), Data.l(want)), 20);
        Term list = there;
        if (want.form() == 'c') {
            Check.due("its number", runPolicy(Term.fn(7, Term.fn(19, there), Term.i(want.number())), Data.i(0)), 0);
            list = Term.fn(20, there);
        }
        for (Data part : want.parts()) {
            dueWithin(Term.fn(26, list), part);
            list = Term.fn(27, list);
        }
        if (want.form() == 'l' || want.form() == 'c') {
            Check.due("no more of it", runPolicy(Term.fn(29, list), Data.i(0)), 0);
        }
    }

    /** Each run has a CONTEXT of its own. */
    private static void ofSeveral() {
        Bench bench = new Bench(1).endow(1, 1, 9000).endow(1, 1, 10000);
        // The kind and the NUMBER are as the REDEEMER says.
        Term list = Term.fn(20, Term.v(1));
        Term kind = Term.fn(17, Term.fn(26, list), Term.fn(26, Term.v(2)));
        Term number = Term.fn(17, Term.fn(26, Term.fn(27, list)), Term.fn(26, Term.fn(27, Term.v(2))));
        Term body = Term.fn(16, kind, number, Term.t(0));
        bench.register(Term.lams(3, body));
        bench.register(Term.lams(2, body));
        bench.register(Term.lams(2, body));
        bench.due("to the SCRIPT", new Tx().in(0).fee(1000).sign(1).payScript(0, 4000, Data.i(0))
                .payScript(0, 4000, Data.i(0)), 0);
        bench.due("four scripts", new Tx().in(3, Data.l(Data.i(0), Data.i(3))).in(2, Data.l(Data.i(0), Data.i(2))).back(1)
                .fee(1000).sign(1).mint(2, 0, 1).mint(2, 1, 1).mint(3, 0, 1)
                .redeem(2, Data.l(Data.i(1), Data.i(2))).redeem(3, Data.l(Data.i(1), Data.i(3)))
                .pay(Tx.owner(1), Tx.value(0, 0, 7000, 2, 0, 1, 2, 1, 1, 3, 0, 1), Data.i(0)), 0);
        bench.dueLatest("four runs", 0, -1, 4, 0);
        Check.due("runs of SCRIPT 0", bench.x.scriptOf(0, 3), 2);
        Check.due("a POLICY runs once", bench.x.scriptOf(1, 3), 1);
        Check.due("runs of SCRIPT 2", bench.x.scriptOf(2, 3), 1);
    }

    /** The i-th field of the CONTEXT is the REDEEMER. */
    private static Term fieldIs(int i) {
        Term list = Term.fn(20, Term.v(1));
        for (int k = 0; k < i; k++) {
            list = Term.fn(27, list);
        }
        return Term.fn(17, Term.fn(26, list), Term.v(2));
    }

    private static void dueField(String what, int i, Tx tx, Data want) {
        for (Data redeemer : new Data[] {want, Data.b(99)}) {
            Bench bench = new Bench(1).endow(1, 1, 1L << 61).endow(1, 1, 1L << 60);
            bench.register(Term.lams(2, fieldIs(i)));
            tx.redeemers.clear();
            bench.due(what, tx.redeem(1, redeemer), redeemer == want ? 0 : 20);
        }
    }

    private static Tx minting(long fee) {
        return new Tx().in(0).back(1).fee(fee).mint(1, -1, 1L << 62)
                .pay(Tx.owner(1), Tx.value(0, 0, (1L << 61) - fee, 1, -1, 1L << 62), Data.i(0));
    }

    private static void asTheyAre() {
        for (long fee : new long[] {100, 1L << 59}) {
            dueField("FEE " + fee, 2, minting(fee).sign(1), Data.i(fee));
        }
        dueField("VALIDITY", 3, minting(500).sign(1).valid(Long.MIN_VALUE, Long.MAX_VALUE),
                Data.l(Data.i(Long.MIN_VALUE), Data.i(Long.MAX_VALUE)));
        dueField("1 SIGNER", 4, minting(500).sign(1), Data.l(Data.i(1)));
        dueField("8 SIGNERS", 4, minting(500).sign(0, 1, 2, 3, 4, 5, 6, 255), Data.l(Data.i(0), Data.i(1), Data.i(2), Data.i(3),
                Data.i(4), Data.i(5), Data.i(6), Data.i(255)));
        dueField("MINT", 5, minting(500).sign(1), Tx.value(1, -1, 1L << 62));
        // An INPUT of a SCRIPT, without MINT: an EMPTY LIST.
        Bench bench = Lab.runInput(Term.lams(3, fieldIs(5)), Data.i(0), Data.l());
        Check.due("no MINT", bench.x.latestOf(0), 0);
        Tx tx = new Tx().in(0).in(1).fee(500).sign(1);
        Check.due("a MINT of nothing asks for no run", new Bench(1).endow(2, 1, 250).submit(tx), 0);
    }

    /** Three POLICIES that accept; OUTPUT 4 is of a script that asks, it and 5 have KINDS that lie between one another. */
    private static Bench withKinds() {
        Bench bench = new Bench(1).endow(4, 1, 1000);
        for (int k = 0; k < 3; k++) {
            bench.register(Term.lams(2, Term.t(1)));
        }
        bench.register(Term.lams(3, fieldIs(6)));
        Tx tx = new Tx().in(0).back(3).fee(100).sign(1).redeem(1, Data.i(0)).redeem(2, Data.i(0)).redeem(3, Data.i(0));
        tx.mint(1, 7, 20).mint(1, -1, 30).mint(2, 0, 1).mint(2, 5, 9).mint(2, -5, 4).mint(3, 0, 2);
        tx.pay(Tx.script(3), Tx.value(0, 0, 500, 1, -1, 30, 2, 5, 3, 3, 0, 2), Data.i(0));
        tx.pay(Tx.owner(1), Tx.value(0, 0, 400, 1, 7, 20, 2, 0, 1, 2, 5, 6, 2, -5, 4), Data.i(0));
        bench.due("KINDS", tx, 0);
        return bench;
    }

    private static void spentTogether() {
        long[] together = {0, 0, 1900, 1, 7, 20, 1, -1, 30, 2, 0, 1, 2, 5, 9, 2, -5, 4, 3, 0, 2};
        for (int turn = 0; turn < 2; turn++) {
            for (boolean isRight : new boolean[] {true, false}) {
                Bench bench = withKinds();
                long[] numbers = together.clone();
                numbers[2] += isRight ? 0 : 1;
                Tx tx = new Tx().fee(100).sign(1).back(3);
                // In whatever order the INPUTS come.
                if (turn == 0) {
                    tx.in(4, Tx.value(numbers)).in(5).in(1);
                } else {
                    tx.in(1).in(5).in(4, Tx.value(numbers));
                }
                together[2] = 1800;
                tx.pay(Tx.owner(1), Tx.value(together), Data.i(0));
                together[2] = 1900;
                bench.due("SPENT", tx, isRight ? 0 : 20);
                bench.dueLatest("SPENT", isRight ? 0 : 20, -1, 1, 0);
            }
        }
    }

    /** Two INPUTS with seven KINDS each, beside BASE. */
    private static void spentOfAnyLength() {
        Bench bench = new Bench(1).endow(3, 1, 1000);
        bench.register(Term.lams(2, Term.fn(16, Term.fn(29, Term.v(2)), Term.t(1), fieldIs(6))));
        Data[] coins = new Data[15];
        for (int k = 0; k < 2; k++) {
            Tx tx = new Tx().in(k).back(2).fee(100).sign(1).redeem(1, Data.l());
            Data[] value = new Data[8];
            value[0] = Data.l(Data.i(0), Data.i(0), Data.i(900));
            for (int i = 1; i < 8; i++) {
                long name = 2 * i - k;
                value[i] = Data.l(Data.i(1), Data.i(name), Data.i(10 + name));
                coins[2 * i - k] = value[i];
                tx.mint(1, name, 10 + name);
            }
            bench.due("KINDS", tx.pay(Tx.owner(1), Data.l(value), Data.i(0)), 0);
        }
        coins[0] = Data.l(Data.i(0), Data.i(0), Data.i(1800));
        Tx tx = new Tx().in(3).in(4).back(2).fee(200).sign(1).mint(1, 1, -1).redeem(1, Data.l(coins));
        List<Data> first = new ArrayList<>(Arrays.asList(coins).subList(0, 8));
        first.set(0, Data.l(Data.i(0), Data.i(0), Data.i(1500)));
        first.set(1, Data.l(Data.i(1), Data.i(1), Data.i(10)));
        List<Data> second = new ArrayList<>(Arrays.asList(coins).subList(7, 15));
        second.set(0, Data.l(Data.i(0), Data.i(0), Data.i(100)));
        bench.due("15 KINDS together", tx.pay(Tx.owner(1), Data.l(first), Data.i(0))
                .pay(Tx.owner(1), Data.l(second), Data.i(0)), 0);
    }

    private static void paid() {
        dueField("an OUTPUT with another KIND", 7, minting(500).sign(1),
                Data.l(Data.c(0, Tx.owner(1), Data.i((1L << 61) - 500))));
        for (int many : new int[] {0, 1, 2, 8}) {
            duePaid(many, true);
            duePaid(many, false);
        }
    }

    /** So many OUTPUTS of OWNERS and of a SCRIPT; the REDEEMER tells them, or tells them wrongly. */
    private static void duePaid(int many, boolean isRight) {
        List<Data> all = new ArrayList<>();
        Tx tx = new Tx().back(1).sign(1).fee(many == 0 ? 9000 : 1000);
        for (int k = 0; k < many; k++) {
            Data address = k % 3 == 2 ? Tx.script(0) : Tx.owner(k == 0 ? 255 : k - 1);
            long base = k == 0 ? 8000 - 2 * (many - 1) : 2;
            all.add(Data.c(0, address, Data.i(base)));
            tx.pay(address, Tx.value(0, 0, base), Data.bs(k));
        }
        if (!isRight) {
            all.add(Data.c(0, Tx.owner(0), Data.i(2)));
        }
        Bench bench = new Bench(1).endow(1, 1, 10000).endow(1, 1, 20000);
        bench.register(Term.lams(3, fieldIs(7)));
        bench.due("to the SCRIPT", new Tx().in(0).fee(1000).sign(1).payScript(0, 9000, Data.i(0)), 0);
        bench.due(many + " OUTPUTS", tx.in(2, Data.l(all)), isRight ? 0 : 20);
        Check.due("it did not fail", bench.x.latestOf(3), 0);
    }

    private static Data rowOf(int value, int many) {
        byte[] row = new byte[many];
        Arrays.fill(row, (byte) value);
        return Data.bytesOf(row);
    }

    private static Term both(Term one, Term other) {
        return Term.fn(16, one, other, Term.t(0));
    }

    /** BYTES of a large TAPE, of a DATUM, of a script and of results are there at once. */
    private static void bytesOfAllKinds() {
        Data datum = Data.l(rowOf(1, 64), Data.bs(59));
        Data last = rowOf(61, 64);
        Term joined = Term.fn(14, Term.fn(10, Term.s(1, 2), Term.s(3)), Term.fn(10, Term.s(1), Term.s(2, 3)));
        Term isLast = Term.fn(17, Term.fn(26, Term.fn(27, Term.v(2))), Term.make(last));
        Bench bench = new Bench(1).endow(1, 1, 9000).endow(1, 1, 10000);
        bench.register(Term.lams(3, both(joined, both(Term.fn(17, Term.v(3), Term.make(datum)), isLast))));
        bench.register(Term.lams(2, both(joined, isLast)));
        bench.due("to the SCRIPT", new Tx().in(0).fee(1000).sign(1).payScript(0, 8000, datum), 0);
        Data[] rows = new Data[44];
        Arrays.fill(rows, rowOf(5, 64));
        Tx tx = new Tx().in(2, Data.l(Data.i(0), last)).back(1).fee(1000).sign(1).mint(2, 0, 1)
                .redeem(2, Data.l(Data.l(rows), last)).pay(Tx.owner(1), Tx.value(0, 0, 7000, 2, 0, 1), Data.i(0));
        Check.due("the TAPE is long", tx.encode().length > 3000, true);
        bench.due("all are as they were given", tx, 0);
        bench.dueLatest("both ran", 0, -1, 2, 0);
    }

    /** The results of many joins change no BYTES that were there before. */
    private static void bytesOfResults() {
        int joins = 12;
        Data datum = Data.l(rowOf(1, 64), rowOf(2, 59));
        Data redeemer = Data.l(rowOf(3, 64), rowOf(4, 64), rowOf(5, 64));
        Term term = both(Term.fn(17, Term.v(3 + joins), Term.make(datum)),
                Term.fn(17, Term.v(2 + joins), Term.make(redeemer)));
        for (int k = 0; k < joins; k++) {
            term = Term.app(Term.lam(term), Term.fn(10, Term.ss(32), Term.ss(32)));
        }
        Bench bench = Lab.runInput(Term.lams(3, term), datum, redeemer);
        bench.dueLatest("all are as they were given", 0, -1, 1, 0);
    }
}
