import java.util.ArrayList;
import java.util.List;

/** Promise 6, VERDICT 7: what is a TRANSACTION, and what is none. */
public final class Promise06FormTest {
    private static final long MOST = 1L << 62;

    public static void main(String[] args) {
        whole();
        inputs();
        collateral();
        addresses();
        values();
        datum();
        feeAndValidity();
        mint();
        redeemers();
        signers();
        Check.end();
    }

    /** An object with two scripts; OUTPUTS 0 .. 9 of OWNER 1. */
    private static Bench bench() {
        Bench bench = new Bench(1);
        for (int k = 0; k < 10; k++) {
            bench.x.endowOwner(1, 1000);
        }
        bench.register(Term.lams(2, Term.t(1)));
        bench.register(Term.lams(2, Term.t(1)));
        return bench;
    }

    private static void due(String what, Data data, int want) {
        Bench bench = bench();
        List<Long> before = bench.state();
        Check.due(what, bench.submit(data), want);
        if (want != 0) {
            Check.due(what + ": nothing changes", bench.state().equals(before), true);
        }
        bench.dueLatest(what, want, -1);
    }

    private static void due(String what, Tx tx, int want) {
        due(what, tx.data(), want);
    }

    private static Tx plain() {
        return new Tx().in(0).fee(100).sign(1);
    }

    private static Tx good() {
        return plain().pay(2, 900);
    }

    private static Data with(Data transaction, int field, Data other) {
        List<Data> fields = new ArrayList<>(transaction.parts());
        fields.set(field, other);
        return Data.c(0, fields);
    }

    private static void whole() {
        due("a good one", good(), 0);
        Data data = good().data();
        due("CONSTRUCTOR 1", Data.c(1, data.parts()), 7);
        due("CONSTRUCTOR 121", Data.c(121, data.parts()), 7);
        due("a LIST", Data.l(data.parts()), 7);
        due("a MAP", Data.m(data.parts()), 7);
        due("seven fields", Data.c(0, data.parts().subList(0, 7)), 7);
        List<Data> nine = new ArrayList<>(data.parts());
        nine.add(Data.l());
        due("nine fields", Data.c(0, nine), 7);
        due("an INTEGER", Data.i(0), 7);
        due("BYTES", Data.b(), 7);
        for (int field = 0; field < 8; field++) {
            due("field " + field + " is BYTES", with(data, field, Data.b(1)), 7);
            due("field " + field + " is a CONSTRUCTOR", with(data, field, Data.c(0)), 7);
            due("field " + field + " is a LIST of a LIST", with(data, field, Data.l(Data.l())), 7);
            if (field != 3) {
                due("field " + field + " is an INTEGER", with(data, field, Data.i(0)), 7);
            }
            if (field != 6) {
                due("field " + field + " is a MAP", with(data, field, Data.m()), 7);
            }
        }
    }

    private static void inputs() {
        Tx tx = new Tx().fee(100).sign(1).pay(2, 7900);
        due("no INPUT", tx, 7);
        for (int k = 0; k < 8; k++) {
            tx.in(k, Data.deep(5));
        }
        due("8 INPUTS", tx, 0);
        due("9 INPUTS", tx.in(8), 7);
        Data data = good().data();
        due("an INPUT of one field", with(data, 0, Data.l(Data.c(0, Data.i(0)))), 7);
        due("an INPUT of three fields", with(data, 0, Data.l(Data.c(0, Data.i(0), Data.i(0), Data.i(0)))), 7);
        due("an INPUT CONSTRUCTOR 1", with(data, 0, Data.l(Data.c(1, Data.i(0), Data.i(0)))), 7);
        due("an INPUT LIST", with(data, 0, Data.l(Data.l(Data.i(0), Data.i(0)))), 7);
        due("an INPUT of BYTES", with(data, 0, Data.l(Data.c(0, Data.b(0), Data.i(0)))), 7);
        due("a second INPUT that is none", with(data, 0, Data.l(Data.c(0, Data.i(0), Data.i(0)), Data.i(0))), 7);
        for (long number : new long[] {-1, 10, Integer.MAX_VALUE, 1L << 32, Long.MAX_VALUE, Long.MIN_VALUE}) {
            due("INPUT " + number, new Tx().in(number).fee(100).sign(1), 8);
        }
    }

    private static void collateral() {
        due("4 COLLATERAL", good().back(1).back(2).back(3).back(4), 0);
        due("5 COLLATERAL", good().back(1).back(2).back(3).back(4).back(5), 7);
        for (long number : new long[] {-1, 10, 1L << 32, Long.MAX_VALUE, Long.MIN_VALUE}) {
            due("COLLATERAL " + number, good().back(number), 8);
        }
        Tx tx = good().back(1);
        tx.collateral.add(Data.b(1));
        due("COLLATERAL of BYTES", tx, 7);
        tx = good();
        tx.collateral.add(Data.l(Data.i(1)));
        due("COLLATERAL in a LIST", tx, 7);
    }

    private static void addresses() {
        Data value = Tx.value(0, 0, 900);
        for (long owner : new long[] {0, 1, 255}) {
            due("OWNER " + owner, plain().pay(Tx.owner(owner), value, Data.i(0)), 0);
        }
        for (long owner : new long[] {-1, 256, 257, Long.MAX_VALUE, Long.MIN_VALUE, 1L << 32}) {
            due("OWNER " + owner, plain().pay(Tx.owner(owner), value, Data.i(0)), 7);
        }
        for (long script : new long[] {0, 1}) {
            due("SCRIPT " + script, plain().pay(Tx.script(script), value, Data.i(0)), 0);
        }
        for (long script : new long[] {-1, 2, 32, 1L << 32, Long.MAX_VALUE, Long.MIN_VALUE}) {
            due("SCRIPT " + script, plain().pay(Tx.script(script), value, Data.i(0)), 7);
        }
        Data[] wrong = {Data.c(2, Data.i(0)), Data.c(0), Data.c(0, Data.i(0), Data.i(0)), Data.c(1), Data.l(Data.i(0)),
            Data.c(0, Data.b(0)), Data.c(1, Data.l()), Data.i(0), Data.c(7, Data.i(0))};
        for (Data address : wrong) {
            due("an ADDRESS that is none", plain().pay(address, value, Data.i(0)), 7);
        }
        Tx tx = plain();
        for (int k = 0; k < 8; k++) {
            tx.pay(2, k == 0 ? 900 - 14 : 2);
        }
        due("8 OUTPUTS", tx, 0);
        due("9 OUTPUTS", tx.pay(2, 2), 7);
        due("no OUTPUT", new Tx().in(0).fee(1000).sign(1), 0);
        tx = plain();
        tx.outputs.add(Data.c(1, Tx.owner(1), value, Data.i(0)));
        due("an OUTPUT CONSTRUCTOR 1", tx, 7);
        tx = plain();
        tx.outputs.add(Data.c(0, Tx.owner(1), value));
        due("an OUTPUT of two fields", tx, 7);
        tx = plain();
        tx.outputs.add(Data.c(0, Tx.owner(1), value, Data.i(0), Data.i(0)));
        due("an OUTPUT of four fields", tx, 7);
        tx = plain();
        tx.outputs.add(Data.l(Tx.owner(1), value, Data.i(0)));
        due("an OUTPUT LIST", tx, 7);
    }

    private static void dueValue(String what, Data value, int want) {
        due(what, plain().pay(Tx.owner(2), value, Data.i(0)), want);
    }

    private static void values() {
        dueValue("no KIND", Data.l(), 7);
        dueValue("a MAP", Data.m(), 7);
        dueValue("AMOUNT 0", Tx.value(0, 0, 0), 7);
        dueValue("AMOUNT -1", Tx.value(0, 0, -1), 7);
        dueValue("AMOUNT 2^62", Tx.value(0, 0, MOST), 11);
        dueValue("AMOUNT 2^62 + 1", Tx.value(0, 0, MOST + 1), 7);
        dueValue("AMOUNT 2^63 - 1", Tx.value(0, 0, Long.MAX_VALUE), 7);
        dueValue("BASE with a NAME", Tx.value(0, 1, 900), 7);
        dueValue("POLICY -1", Tx.value(-1, 0, 5), 7);
        dueValue("POLICY 2", Tx.value(0, 0, 900, 2, 0, 5), 11);
        dueValue("POLICY 3", Tx.value(0, 0, 900, 3, 0, 5), 7);
        dueValue("POLICY 2^32", Tx.value(0, 0, 900, 1L << 32, 0, 5), 7);
        dueValue("the same KIND twice", Tx.value(0, 0, 400, 0, 0, 500), 7);
        dueValue("KINDS that fall", Tx.value(2, 0, 5, 1, 0, 5), 7);
        dueValue("BASE behind others", Tx.value(1, 0, 5, 0, 0, 900), 7);
        dueValue("NAMES that fall", Tx.value(1, 2, 5, 1, 1, 5), 7);
        dueValue("NAMES that rise", Tx.value(1, 1, 5, 1, 2, 5), 11);
        dueValue("-1 is the greatest NAME", Tx.value(1, Long.MAX_VALUE, 5, 1, -1, 5), 11);
        dueValue("-1 is above 0", Tx.value(1, -1, 5, 1, 0, 5), 7);
        dueValue("-2 is below -1", Tx.value(1, -2, 5, 1, -1, 5), 11);
        dueValue("-1 of a POLICY, then 0 of the next", Tx.value(1, -1, 5, 2, 0, 5), 11);
        dueValue("8 KINDS", Tx.value(0, 0, 9, 1, 1, 1, 1, 2, 1, 1, 3, 1, 1, 4, 1, 1, 5, 1, 1, 6, 1, 1, 7, 1), 11);
        dueValue("9 KINDS",
                Tx.value(0, 0, 9, 1, 1, 1, 1, 2, 1, 1, 3, 1, 1, 4, 1, 1, 5, 1, 1, 6, 1, 1, 7, 1, 1, 8, 1), 7);
        dueValue("a KIND of two numbers", Data.l(Data.l(Data.i(0), Data.i(0))), 7);
        dueValue("a KIND of four numbers", Data.l(Data.l(Data.i(0), Data.i(0), Data.i(5), Data.i(5))), 7);
        dueValue("a KIND CONSTRUCTOR", Data.l(Data.c(0, Data.i(0), Data.i(0), Data.i(5))), 7);
        dueValue("a KIND with BYTES", Data.l(Data.l(Data.i(0), Data.b(), Data.i(5))), 7);
        dueValue("a KIND with a LIST", Data.l(Data.l(Data.i(0), Data.i(0), Data.l())), 7);
    }

    private static void datum() {
        Data value = Tx.value(0, 0, 900);
        // A LIST of two BYTES: 1 + (2 + 64) + (2 + n).
        Data most = Data.l(Data.bs(64), Data.bs(59));
        Check.due("the DATUM's bytes", most.encode().length, 128);
        due("a DATUM of 128 bytes", plain().pay(Tx.owner(2), value, most), 0);
        due("a DATUM of 129 bytes", plain().pay(Tx.owner(2), value, Data.l(Data.bs(64), Data.bs(60))), 7);
        due("a DATUM of 128 bytes, two of these", plain().pay(Tx.owner(2), Tx.value(0, 0, 450), most)
                .pay(Tx.owner(2), Tx.value(0, 0, 450), most), 0);
        due("a DATUM of 128 NODES", plain().pay(Tx.owner(2), value, Data.wide(127)), 0);
        due("a second DATUM of 129 bytes", plain().pay(Tx.owner(2), Tx.value(0, 0, 450), Data.i(0))
                .pay(Tx.owner(2), Tx.value(0, 0, 450), Data.l(Data.bs(64), Data.bs(60))), 7);
    }

    private static void feeAndValidity() {
        Data data = good().data();
        due("FEE -1", with(data, 3, Data.i(-1)), 7);
        due("FEE 0", with(data, 3, Data.i(0)), 10);
        due("FEE 2^62", with(data, 3, Data.i(MOST)), 11);
        due("FEE 2^62 + 1", with(data, 3, Data.i(MOST + 1)), 7);
        due("FEE of BYTES", with(data, 3, Data.b(100)), 7);
        due("VALIDITY of one", with(data, 4, Data.l(Data.i(0))), 7);
        due("VALIDITY of three", with(data, 4, Data.l(Data.i(0), Data.i(9), Data.i(9))), 7);
        due("VALIDITY of BYTES", with(data, 4, Data.l(Data.i(0), Data.b())), 7);
        due("VALIDITY CONSTRUCTOR", with(data, 4, Data.c(0, Data.i(0), Data.i(9))), 7);
        due("VALIDITY of all numbers", good().valid(Long.MIN_VALUE, Long.MAX_VALUE), 0);
    }

    private static Tx minting() {
        return new Tx().in(0).back(9).fee(100).sign(1);
    }

    private static void mint() {
        due("MINT of one", minting().mint(1, 5, 7).redeem(1, Data.i(0))
                .pay(Tx.owner(2), Tx.value(0, 0, 900, 1, 5, 7), Data.i(0)), 0);
        due("MINT of BASE", minting().mint(0, 0, 7).redeem(0, Data.i(0)).pay(2, 907), 7);
        due("MINT of POLICY 3", minting().mint(3, 0, 7).redeem(3, Data.i(0))
                .pay(Tx.owner(2), Tx.value(0, 0, 900), Data.i(0)), 7);
        due("MINT of POLICY -1", minting().mint(-1, 0, 7).redeem(-1, Data.i(0)).pay(2, 900), 7);
        for (long amount : new long[] {0, MOST + 1, -MOST - 1, Long.MAX_VALUE, Long.MIN_VALUE}) {
            due("MINT of " + amount, minting().mint(1, 5, amount).redeem(1, Data.i(0)).pay(2, 900), 7);
        }
        due("MINT of -2^62", minting().mint(1, 5, -MOST).redeem(1, Data.i(0)).pay(2, 900), 11);
        due("MINT of 2^62", minting().mint(1, 5, MOST).redeem(1, Data.i(0))
                .pay(Tx.owner(2), Tx.value(0, 0, 900, 1, 5, MOST), Data.i(0)), 0);
        due("MINT of the same KIND twice", minting().mint(1, 5, 3).mint(1, 5, 4).redeem(1, Data.i(0)).pay(2, 900), 7);
        due("MINT that falls", minting().mint(1, 5, 3).mint(1, 4, 4).redeem(1, Data.i(0)).pay(2, 900), 7);
        due("MINT of POLICIES that fall",
                minting().mint(2, 5, 3).mint(1, 4, 4).redeem(1, Data.i(0)).redeem(2, Data.i(0)).pay(2, 900), 7);
        Tx tx = minting();
        List<Long> numbers = new ArrayList<>(List.of(0L, 0L, 900L));
        for (long k = 1; k <= 8; k++) {
            tx.mint(1, k, 1);
            if (k < 8) {
                numbers.addAll(List.of(1L, k, 1L));
            }
        }
        long[] row = numbers.stream().mapToLong(Long::longValue).toArray();
        tx.redeem(1, Data.i(0)).pay(Tx.owner(2), Tx.value(row), Data.i(0));
        due("MINT of 8, one of which is not paid", tx, 11);
        due("MINT of 9", tx.mint(1, 9, 1), 7);
        Data data = good().data();
        due("MINT of a LIST of two", with(data, 5, Data.l(Data.l(Data.i(1), Data.i(0)))), 7);
        due("MINT of a MAP", with(data, 5, Data.m()), 7);
    }

    private static void redeemers() {
        Data value = Tx.value(0, 0, 900, 1, 5, 7, 1, 6, 7, 2, 5, 7);
        Tx tx = minting().mint(1, 5, 7).mint(1, 6, 7).mint(2, 5, 7).pay(Tx.owner(2), value, Data.i(0));
        due("no REDEEMERS", tx, 7);
        due("one of two", tx.redeem(1, Data.deep(3)), 7);
        due("both", tx.redeem(2, Data.deep(3)), 0);
        due("one more", tx.redeem(3, Data.i(0)), 7);
        tx.redeemers.clear();
        due("falling", tx.redeem(2, Data.i(0)).redeem(1, Data.i(0)), 7);
        tx.redeemers.clear();
        due("one twice", tx.redeem(1, Data.i(0)).redeem(1, Data.i(0)), 7);
        tx.redeemers.clear();
        due("one twice and the other", tx.redeem(1, Data.i(0)).redeem(1, Data.i(0)).redeem(2, Data.i(0)), 7);
        tx.redeemers.clear();
        tx.redeemers.addAll(List.of(Data.b(1), Data.i(0), Data.i(2), Data.i(0)));
        due("a key of BYTES", tx, 7);
        due("REDEEMERS without MINT", good().redeem(1, Data.i(0)), 7);
        due("REDEEMERS a LIST", with(good().data(), 6, Data.l()), 7);
    }

    private static void signers() {
        due("8 SIGNERS", good().sign(2, 3, 4, 5, 6, 7, 255), 0);
        due("9 SIGNERS", good().sign(2, 3, 4, 5, 6, 7, 8, 9), 7);
        due("SIGNER 0", new Tx().in(0).fee(1000).sign(0, 1), 0);
        due("SIGNER 256", good().sign(256), 7);
        due("SIGNER -1", new Tx().in(0).fee(1000).sign(-1, 1), 7);
        due("the same SIGNER twice", good().sign(1), 7);
        due("SIGNERS that fall", good().sign(0), 7);
        Tx tx = good();
        tx.signers.add(Data.b(2));
        due("SIGNER of BYTES", tx, 7);
    }
}
