import java.util.ArrayList;
import java.util.List;

/** Promise 6, VERDICT 7: what is a TRANSACTION, and what is none. */
public final class Promise06FormTest {
    private static final long MOST = 1L << 62;

    public static void main(String[] args) {
        Edge.of("A TRANSACTION is DATA: CONSTRUCTOR 0 of eight fields", Promise06FormTest::whole);
        Edge.of("INPUTS, a LIST of 1 to 8 CONSTRUCTORS 0 of an INTEGER, a NUMBER", Promise06FormTest::inputs);
        Edge.of("(any INTEGER: 8 asks whether there is one)", Promise06FormTest::anyNumber);
        Edge.of("and DATA, its REDEEMER", Promise06FormTest::anyRedeemer);
        Edge.of("COLLATERAL, a LIST of up to 4 INTEGERS, NUMBERS likewise", Promise06FormTest::collateral);
        Edge.of("OUTPUTS, a LIST of up to 8 CONSTRUCTORS 0 of an ADDRESS, a VALUE and DATA", Promise06FormTest::outputs);
        Edge.of("DATA of at most 128 bytes, its DATUM", Promise06FormTest::datum);
        Edge.of("FEE, an INTEGER 0 .. 2^62", Promise06FormTest::fee);
        Edge.of("VALIDITY, a LIST of two INTEGERS", Promise06FormTest::validity);
        Edge.of("MINT, a LIST of up to 8 LISTS of three INTEGERS", Promise06FormTest::mint);
        Edge.of("REDEEMERS, a MAP of up to 8 pairs of an INTEGER and DATA", Promise06FormTest::mostRedeemers);
        Edge.of("SIGNERS, a LIST of up to 8 INTEGERS 0 .. 255, each above the one before.", Promise06FormTest::signers);
        Edge.of("An ADDRESS is CONSTRUCTOR 0 of an INTEGER, an OWNER", Promise06FormTest::owners);
        Edge.of("or CONSTRUCTOR 1 of an INTEGER, a SCRIPT that is registered.", Promise06FormTest::scripts);
        Edge.of("A VALUE is a LIST of 1 to 8 LISTS of three INTEGERS", Promise06FormTest::values);
        Edge.of("POLICY (one that there is)", Promise06FormTest::policies);
        Edge.of("POLICY 0 has the NAME 0 alone, which is BASE; POLICY 1 + s is that of SCRIPT s.",
                Promise06FormTest::lastPolicy);
        Edge.of("NAME (0, if POLICY is 0)", Promise06FormTest::nameOfBase);
        Edge.of("AMOUNT 1 .. 2^62", Promise06FormTest::amounts);
        Edge.of("KINDS lie by POLICY, then by NAME as a number without a sign.", Promise06FormTest::order);
        Edge.of("MINT likewise, but without BASE", Promise06FormTest::mintLikewise);
        Edge.of("its AMOUNTS are -2^62 .. 2^62 and not 0", Promise06FormTest::mintAmounts);
        Edge.of("REDEEMERS have just the POLICIES of MINT, each once, rising.", Promise06FormTest::redeemers);
        Edge.of("7: it is no TRANSACTION.", Promise06FormTest::beforeAllElse);
        Check.end();
    }

    /** An object with two scripts; OUTPUTS 0 .. 9 of OWNER 1. */
    private static Bench bench() {
        Bench bench = new Bench(1).endow(10, 1, 1000);
        bench.register(Term.lams(2, Term.t(1)));
        bench.register(Term.lams(2, Term.t(1)));
        return bench;
    }

    private static void due(String what, Data data, int want) {
        if (want != 0) {
            Refused.dueTape(what, Promise06FormTest::bench, data.encode(), want, -1);
            return;
        }
        Bench bench = bench();
        Check.due(what, bench.submit(data), 0);
        bench.dueLook(what + ", APPLIED", 7, 1);
    }

    private static void due(String what, Tx tx, int want) {
        due(what, tx.data(), want);
    }

    private static Tx plain() {
        return new Tx().in(0).fee(100).sign(1);
    }

    private static Tx good() {
        return plain().pay(2, 900);
    }

    private static Data with(Data transaction, int field, Data other) {
        List<Data> fields = new ArrayList<>(transaction.parts());
        fields.set(field, other);
        return Data.c(0, fields);
    }

    private static void whole() {
        due("a good one", good(), 0);
        Data data = good().data();
        for (int number : new int[] {1, 6, 7, 121, 127}) {
            due("CONSTRUCTOR " + number, Data.c(number, data.parts()), 7);
        }
        due("a LIST", Data.l(data.parts()), 7);
        due("a MAP", Data.m(data.parts()), 7);
        due("no fields", Data.c(0), 7);
        due("seven fields", Data.c(0, data.parts().subList(0, 7)), 7);
        due("seven fields, without the first", Data.c(0, data.parts().subList(1, 8)), 7);
        List<Data> nine = new ArrayList<>(data.parts());
        nine.add(Data.l());
        due("nine fields", Data.c(0, nine), 7);
        due("in a LIST", Data.l(data), 7);
        due("an INTEGER", Data.i(0), 7);
        due("BYTES", Data.b(), 7);
        for (int field = 0; field < 8; field++) {
            due("field " + field + " is BYTES", with(data, field, Data.b(1)), 7);
            due("field " + field + " is a CONSTRUCTOR", with(data, field, Data.c(0)), 7);
            due("field " + field + " is a CONSTRUCTOR of what it was",
                    with(data, field, Data.c(0, data.parts().get(field).parts())), 7);
            due("field " + field + " is a LIST of a LIST", with(data, field, Data.l(Data.l())), 7);
            due("field " + field + " is in a LIST", with(data, field, Data.l(data.parts().get(field))), 7);
            if (field != 3) {
                due("field " + field + " is an INTEGER", with(data, field, Data.i(0)), 7);
            }
            if (field != 6) {
                due("field " + field + " is a MAP", with(data, field, Data.m()), 7);
            }
        }
    }

    private static Tx inputs(int many) {
        Tx tx = new Tx().fee(100).sign(1).pay(2, 1000 * Math.max(many, 1) - 100);
        for (int k = 0; k < many; k++) {
            tx.in(k, Data.deep(1 + k % 5));
        }
        return tx;
    }

    private static void inputs() {
        due("no INPUT", inputs(0), 7);
        due("1 INPUT", inputs(1), 0);
        due("7 INPUTS", inputs(7), 0);
        due("8 INPUTS", inputs(8), 0);
        due("9 INPUTS", inputs(9), 7);
        due("10 INPUTS", inputs(10), 7);
        Data data = good().data();
        due("an INPUT of no field", with(data, 0, Data.l(Data.c(0))), 7);
        due("an INPUT of one field", with(data, 0, Data.l(Data.c(0, Data.i(0)))), 7);
        due("an INPUT of three fields", with(data, 0, Data.l(Data.c(0, Data.i(0), Data.i(0), Data.i(0)))), 7);
        due("an INPUT CONSTRUCTOR 1", with(data, 0, Data.l(Data.c(1, Data.i(0), Data.i(0)))), 7);
        due("an INPUT LIST", with(data, 0, Data.l(Data.l(Data.i(0), Data.i(0)))), 7);
        due("an INPUT MAP", with(data, 0, Data.l(Data.m(Data.i(0), Data.i(0)))), 7);
        due("an INPUT of BYTES", with(data, 0, Data.l(Data.c(0, Data.b(0), Data.i(0)))), 7);
        due("an INPUT of a LIST", with(data, 0, Data.l(Data.c(0, Data.l(Data.i(0)), Data.i(0)))), 7);
        due("a second INPUT that is none", with(data, 0, Data.l(Data.c(0, Data.i(0), Data.i(0)), Data.i(0))), 7);
        Tx eight = inputs(8);
        eight.inputs.set(7, Data.c(1, Data.i(7), Data.i(0)));
        due("an eighth INPUT that is none", eight, 7);
    }

    private static final long[] NO_NUMBERS = {-1, 10, 11, 1023, 1024, Integer.MAX_VALUE, Integer.MIN_VALUE, 1L << 32,
        Long.MAX_VALUE, Long.MIN_VALUE};

    private static void anyNumber() {
        for (long number : NO_NUMBERS) {
            due("INPUT " + number, new Tx().in(number).fee(100).sign(1), 8);
            due("COLLATERAL " + number, good().back(number), 8);
        }
        due("the last one that there is", new Tx().in(9).fee(1000).sign(1), 0);
    }

    private static void anyRedeemer() {
        Data[] some = {Data.i(Long.MIN_VALUE), Data.b(), Data.bs(64), Data.l(), Data.m(), Data.m(Data.i(1), Data.i(2)),
            Data.c(127), Data.deep(9), Data.wide(150)};
        for (Data redeemer : some) {
            due("a REDEEMER", new Tx().in(0, redeemer).fee(1000).sign(1), 0);
        }
    }

    private static void collateral() {
        due("no COLLATERAL", good(), 0);
        due("1 COLLATERAL", good().back(1), 0);
        due("3 COLLATERAL", good().back(1).back(2).back(3), 0);
        due("4 COLLATERAL", good().back(1).back(2).back(3).back(4), 0);
        due("5 COLLATERAL", good().back(1).back(2).back(3).back(4).back(5), 7);
        Data[] wrong = {Data.b(1), Data.l(Data.i(1)), Data.l(), Data.m(), Data.c(0, Data.i(1))};
        for (Data other : wrong) {
            Tx tx = good().back(1);
            tx.collateral.add(other);
            due("COLLATERAL that is no INTEGER", tx, 7);
            tx.collateral.remove(0);
            due("COLLATERAL that is no INTEGER, alone", tx, 7);
        }
    }

    private static Tx outputs(int many) {
        Tx tx = new Tx().in(0).sign(1).fee(1000 - 2 * many);
        for (int k = 0; k < many; k++) {
            tx.pay(k, 2);
        }
        return tx;
    }

    private static void outputs() {
        due("no OUTPUT", outputs(0), 0);
        due("1 OUTPUT", outputs(1), 0);
        due("7 OUTPUTS", outputs(7), 0);
        due("8 OUTPUTS", outputs(8), 0);
        due("9 OUTPUTS", outputs(9), 7);
        Data value = Tx.value(0, 0, 900);
        Data[] wrong = {Data.c(1, Tx.owner(1), value, Data.i(0)), Data.c(0, Tx.owner(1), value), Data.c(0),
            Data.c(0, Tx.owner(1), value, Data.i(0), Data.i(0)), Data.l(Tx.owner(1), value, Data.i(0)),
            Data.c(0, value, Tx.owner(1), Data.i(0)), Data.i(0), Data.b()};
        for (Data other : wrong) {
            Tx tx = plain();
            tx.outputs.add(other);
            due("an OUTPUT that is none", tx, 7);
            tx = new Tx().in(0).fee(100).sign(1).pay(1, 900);
            tx.outputs.add(other);
            due("a second OUTPUT that is none", tx, 7);
        }
    }

    private static void datum() {
        Data value = Tx.value(0, 0, 900);
        // A LIST of two BYTES: 1 + (2 + 64) + (2 + n).
        Data most = Data.l(Data.bs(64), Data.bs(59));
        Data more = Data.l(Data.bs(64), Data.bs(60));
        Check.due("the DATUM's bytes", most.encode().length, 128);
        due("a DATUM of 127 bytes", plain().pay(Tx.owner(2), value, Data.l(Data.bs(64), Data.bs(58))), 0);
        due("a DATUM of 128 bytes", plain().pay(Tx.owner(2), value, most), 0);
        due("a DATUM of 129 bytes", plain().pay(Tx.owner(2), value, more), 7);
        due("a DATUM of 1 byte", plain().pay(Tx.owner(2), value, Data.b()), 0);
        Tx two = plain().pay(Tx.owner(2), Tx.value(0, 0, 450), most);
        due("a DATUM of 128 bytes, two of these", two.pay(Tx.owner(2), Tx.value(0, 0, 450), most), 0);
        due("a second DATUM of 129 bytes", plain().pay(Tx.owner(2), Tx.value(0, 0, 450), Data.i(0))
                .pay(Tx.owner(2), Tx.value(0, 0, 450), more), 7);
        due("a first DATUM of 129 bytes", plain().pay(Tx.owner(2), Tx.value(0, 0, 450), more)
                .pay(Tx.owner(2), Tx.value(0, 0, 450), Data.i(0)), 7);
        due("a DATUM of 128 bytes with 127 NODES", plain().pay(Tx.owner(2), value, Data.wide(127)), 0);
        due("a DATUM of 129 bytes with 128 NODES", plain().pay(Tx.owner(2), value, Data.wide(128)), 7);
        // A CONSTRUCTOR 7 has a HEAD of three bytes: 3 + 1 + 2 * (2 + 60).
        due("128 bytes in a CONSTRUCTOR", plain().pay(Tx.owner(2), value, Data.c(7, Data.bs(60), Data.bs(60))), 0);
        due("129 bytes in a CONSTRUCTOR", plain().pay(Tx.owner(2), value, Data.c(7, Data.bs(60), Data.bs(61))), 7);
    }

    private static void fee() {
        Data data = good().data();
        due("FEE -1", with(data, 3, Data.i(-1)), 7);
        due("FEE 0", with(data, 3, Data.i(0)), 10);
        due("FEE 2^62", with(data, 3, Data.i(MOST)), 11);
        due("FEE 2^62 + 1", with(data, 3, Data.i(MOST + 1)), 7);
        due("FEE 2^63 - 1", with(data, 3, Data.i(Long.MAX_VALUE)), 7);
        due("FEE -2^63", with(data, 3, Data.i(Long.MIN_VALUE)), 7);
        due("FEE of BYTES", with(data, 3, Data.b(100)), 7);
        due("FEE in a LIST", with(data, 3, Data.l(Data.i(100))), 7);
        Bench bench = new Bench(1).endow(1, 1, MOST);
        bench.due("FEE 2^62 of all there is", new Tx().in(0).fee(MOST).sign(1), 0);
        bench.dueLook("the POT", 0, MOST);
    }

    private static void validity() {
        Data data = good().data();
        due("VALIDITY of none", with(data, 4, Data.l()), 7);
        due("VALIDITY of one", with(data, 4, Data.l(Data.i(0))), 7);
        due("VALIDITY of two", with(data, 4, Data.l(Data.i(0), Data.i(9))), 0);
        due("VALIDITY of three", with(data, 4, Data.l(Data.i(0), Data.i(9), Data.i(9))), 7);
        due("VALIDITY of BYTES first", with(data, 4, Data.l(Data.b(), Data.i(9))), 7);
        due("VALIDITY of BYTES last", with(data, 4, Data.l(Data.i(0), Data.b())), 7);
        due("VALIDITY of a LIST", with(data, 4, Data.l(Data.i(0), Data.l(Data.i(9)))), 7);
        due("VALIDITY CONSTRUCTOR", with(data, 4, Data.c(0, Data.i(0), Data.i(9))), 7);
        due("VALIDITY MAP", with(data, 4, Data.m(Data.i(0), Data.i(9))), 7);
        due("VALIDITY of all numbers", good().valid(Long.MIN_VALUE, Long.MAX_VALUE), 0);
    }

    private static Tx minting() {
        return new Tx().in(0).back(9).fee(100).sign(1);
    }

    /** So many KINDS of POLICY 1 are MINTED, and paid in two OUTPUTS. */
    private static Tx minting(int kinds) {
        Tx tx = minting();
        List<Data> first = new ArrayList<>(List.of(coin(0, 0, 450)));
        List<Data> second = new ArrayList<>(List.of(coin(0, 0, 450)));
        for (int k = 0; k < kinds; k++) {
            tx.mint(1, k, 1);
            (k < 4 ? first : second).add(coin(1, k, 1));
        }
        tx.pay(Tx.owner(2), Data.l(first), Data.i(0)).pay(Tx.owner(2), Data.l(second), Data.i(0));
        return kinds > 0 ? tx.redeem(1, Data.i(0)) : tx;
    }

    private static Data coin(long policy, long name, long amount) {
        return Data.l(Data.i(policy), Data.i(name), Data.i(amount));
    }

    private static void mint() {
        due("MINT of none", minting(0), 0);
        due("MINT of 1", minting(1), 0);
        due("MINT of 7", minting(7), 0);
        due("MINT of 8", minting(8), 0);
        due("MINT of 9", minting(9), 7);
        Data[] wrong = {Data.l(Data.i(1), Data.i(9)), Data.l(Data.i(1), Data.i(9), Data.i(1), Data.i(1)), Data.l(),
            Data.c(0, Data.i(1), Data.i(9), Data.i(1)), Data.l(Data.b(), Data.i(9), Data.i(1)),
            Data.l(Data.i(1), Data.b(), Data.i(1)), Data.l(Data.i(1), Data.i(9), Data.b()),
            Data.l(Data.i(1), Data.i(9), Data.l()), Data.i(1)};
        for (Data other : wrong) {
            Tx tx = minting(2);
            tx.mint.add(other);
            due("MINT of what is no LIST of three INTEGERS", tx, 7);
            tx.mint.clear();
            tx.mint.add(other);
            due("MINT of that alone", tx, 7);
        }
    }

    /** An object with nine scripts. */
    private static Bench nineScripts() {
        Bench bench = new Bench(1).endow(10, 1, 1000);
        for (int k = 0; k < 9; k++) {
            bench.register(Term.lams(2, Term.t(1)));
        }
        return bench;
    }

    private static Tx ofPolicies(int many) {
        Tx tx = minting();
        List<Data> first = new ArrayList<>(List.of(coin(0, 0, 450)));
        List<Data> second = new ArrayList<>(List.of(coin(0, 0, 450)));
        for (int k = 1; k <= many; k++) {
            tx.mint(k, 5, 1).redeem(k, Data.i(k));
            (k < 5 ? first : second).add(coin(k, 5, 1));
        }
        return tx.pay(Tx.owner(2), Data.l(first), Data.i(0)).pay(Tx.owner(2), Data.l(second), Data.i(0));
    }

    private static void mostRedeemers() {
        Bench bench = nineScripts();
        bench.due("8 POLICIES", ofPolicies(8), 0);
        bench.dueLatest("8 POLICIES", 0, -1, 8, 0);
        Refused.dueTx("9 POLICIES", Promise06FormTest::nineScripts, ofPolicies(9), 7);
        Refused.dueTx("8 POLICIES of MINT, 9 of REDEEMERS", Promise06FormTest::nineScripts,
                ofPolicies(8).redeem(9, Data.i(0)), 7);
    }

    private static void signers() {
        due("7 SIGNERS", good().sign(2, 3, 4, 5, 6, 255), 0);
        due("8 SIGNERS", good().sign(2, 3, 4, 5, 6, 7, 255), 0);
        due("9 SIGNERS", good().sign(2, 3, 4, 5, 6, 7, 8, 9), 7);
        due("SIGNER 0", new Tx().in(0).fee(1000).sign(0, 1), 0);
        due("SIGNER 255", good().sign(255), 0);
        due("SIGNER 256", good().sign(256), 7);
        due("SIGNER -1", new Tx().in(0).fee(1000).sign(-1, 1), 7);
        due("the same SIGNER twice", good().sign(1), 7);
        due("the same SIGNER twice, behind another", good().sign(2, 2), 7);
        due("SIGNERS that fall", good().sign(0), 7);
        due("SIGNERS that fall by one", good().sign(9, 8), 7);
        due("SIGNERS that rise by one", good().sign(2, 3), 0);
        for (Data other : new Data[] {Data.b(2), Data.l(Data.i(2)), Data.l(), Data.i(Long.MAX_VALUE),
            Data.i((1L << 32) + 2)}) {
            Tx tx = good();
            tx.signers.add(other);
            due("a SIGNER that is none", tx, 7);
        }
    }

    private static void owners() {
        Data value = Tx.value(0, 0, 900);
        for (long owner : new long[] {0, 1, 254, 255}) {
            due("OWNER " + owner, plain().pay(Tx.owner(owner), value, Data.i(0)), 0);
        }
        for (long owner : new long[] {-1, 256, 257, 1L << 32, Long.MAX_VALUE, Long.MIN_VALUE}) {
            due("OWNER " + owner, plain().pay(Tx.owner(owner), value, Data.i(0)), 7);
        }
        Data[] wrong = {Data.c(2, Data.i(0)), Data.c(0), Data.c(0, Data.i(0), Data.i(0)), Data.c(1), Data.l(Data.i(0)),
            Data.c(0, Data.b(0)), Data.c(0, Data.l(Data.i(0))), Data.c(1, Data.l()), Data.i(0), Data.c(7, Data.i(0)),
            Data.m(Data.i(0), Data.i(0)), Data.c(1, Data.i(0), Data.i(0)), Data.b(0)};
        for (Data address : wrong) {
            due("an ADDRESS that is none", plain().pay(address, value, Data.i(0)), 7);
        }
    }

    private static void scripts() {
        Data value = Tx.value(0, 0, 900);
        for (long script : new long[] {0, 1}) {
            due("SCRIPT " + script, plain().pay(Tx.script(script), value, Data.i(0)), 0);
        }
        for (long script : new long[] {-1, 2, 3, 31, 32, 256, 1L << 32, Long.MAX_VALUE, Long.MIN_VALUE}) {
            due("SCRIPT " + script, plain().pay(Tx.script(script), value, Data.i(0)), 7);
        }
        Bench bench = new Bench(1).endow(1, 1, 1000);
        bench.due("SCRIPT 0 of none", plain().payScript(0, 900, Data.i(0)), 7);
        bench.register(9, 1);
        bench.due("SCRIPT 0, as soon as there is one", plain().payScript(0, 900, Data.i(0)), 0);
    }

    private static void dueValue(String what, Data value, int want) {
        due(what, plain().pay(Tx.owner(2), value, Data.i(0)), want);
    }

    /** An OUTPUT with BASE and so many other KINDS, which are MINTED. */
    private static Tx paying(int kinds) {
        Tx tx = minting();
        List<Data> value = new ArrayList<>(List.of(coin(0, 0, 900)));
        for (int k = 0; k < kinds; k++) {
            tx.mint(1, k, 3);
            value.add(coin(1, k, 3));
        }
        return tx.redeem(1, Data.i(0)).pay(Tx.owner(2), Data.l(value), Data.i(0));
    }

    private static void values() {
        dueValue("no KIND", Data.l(), 7);
        dueValue("1 KIND", Tx.value(0, 0, 900), 0);
        due("7 KINDS", paying(6), 0);
        due("8 KINDS", paying(7), 0);
        due("9 KINDS", paying(8), 7);
        dueValue("a MAP", Data.m(), 7);
        dueValue("a MAP of three", Data.m(Data.i(0), Data.i(0), Data.i(900), Data.i(0)), 7);
        dueValue("an INTEGER", Data.i(900), 7);
        dueValue("a CONSTRUCTOR", Data.c(0, coin(0, 0, 900)), 7);
        dueValue("three INTEGERS", coin(0, 0, 900), 7);
        dueValue("a KIND of one number", Data.l(Data.l(Data.i(0))), 7);
        dueValue("a KIND of four numbers", Data.l(Data.l(Data.i(0), Data.i(0), Data.i(900), Data.i(5))), 7);
        dueValue("a KIND CONSTRUCTOR", Data.l(Data.c(0, Data.i(0), Data.i(0), Data.i(900))), 7);
        dueValue("a POLICY of BYTES", Data.l(Data.l(Data.b(), Data.i(0), Data.i(900))), 7);
        dueValue("a NAME of BYTES", Data.l(Data.l(Data.i(0), Data.b(), Data.i(900))), 7);
        dueValue("an AMOUNT of a LIST", Data.l(Data.l(Data.i(0), Data.i(0), Data.l())), 7);
        dueValue("a second KIND of two numbers", Data.l(coin(0, 0, 900), Data.l(Data.i(1), Data.i(0))), 7);
        // What follows would do as its AMOUNT.
        due("a KIND of two numbers", plain().pay(Tx.owner(2), Data.l(Data.l(Data.i(0), Data.i(0))), Data.i(900)), 7);
    }

    private static void policies() {
        for (long policy : new long[] {-1, 3, 4, 32, 33, 1L << 32, (1L << 32) + 1, Long.MAX_VALUE, Long.MIN_VALUE}) {
            dueValue("POLICY " + policy, Data.l(coin(0, 0, 900), coin(policy, 0, 5)), 7);
            dueValue("POLICY " + policy + " alone", Data.l(coin(policy, 0, 5)), 7);
        }
        dueValue("POLICY 2, of SCRIPT 1", Tx.value(0, 0, 900, 2, 0, 5), 11);
        due("POLICY 2, MINTED", minting().mint(2, 0, 5).redeem(2, Data.i(0))
                .pay(Tx.owner(2), Tx.value(0, 0, 900, 2, 0, 5), Data.i(0)), 0);
    }

    /** 32 SCRIPTS, of which the last one alone accepts. */
    private static Bench allScripts() {
        Bench bench = new Bench(1).endow(10, 1, 1000);
        for (int k = 0; k < 32; k++) {
            Check.due("registerScript()", bench.register(Term.lams(2, Term.t(k / 31))), k);
        }
        return bench;
    }

    private static Tx mintingOf(long policy) {
        return minting().mint(policy, 0, 5).redeem(policy, Data.i(0))
                .pay(Tx.owner(2), Tx.value(0, 0, 900, policy, 0, 5), Data.i(0));
    }

    private static void lastPolicy() {
        Bench bench = allScripts();
        bench.due("POLICY 32", mintingOf(32), 0);
        Check.due("SCRIPT 31 ran", bench.x.scriptOf(31, 3), 1);
        Check.due("totalOf(32, 0)", bench.x.totalOf(32, 0), 5);
        bench = allScripts();
        bench.due("POLICY 31", mintingOf(31), 20);
        Check.due("SCRIPT 30 ran", bench.x.scriptOf(30, 3), 1);
        bench = allScripts();
        bench.due("POLICY 1", mintingOf(1), 20);
        Check.due("SCRIPT 0 ran", bench.x.scriptOf(0, 3), 1);
        Refused.dueTx("POLICY 33", Promise06FormTest::allScripts, mintingOf(33), 7);
        bench = allScripts();
        bench.due("to SCRIPT 31", plain().payScript(31, 900, Data.i(0)), 0);
        Check.due("outputOf(10, 0)", bench.x.outputOf(10, 0), 287);
        Check.due("ownedBy(287, 0)", bench.x.ownedBy(287, 0), 10);
        Refused.dueTx("to SCRIPT 32", Promise06FormTest::allScripts, plain().payScript(32, 900, Data.i(0)), 7);
    }

    private static void nameOfBase() {
        dueValue("NAME 0", Tx.value(0, 0, 900), 0);
        for (long name : new long[] {1, -1, 900, 1L << 32, Long.MIN_VALUE, Long.MAX_VALUE}) {
            dueValue("NAME " + name, Tx.value(0, name, 900), 7);
        }
        for (long name : new long[] {0, 1, -1, Long.MIN_VALUE, Long.MAX_VALUE}) {
            due("NAME " + name + " of POLICY 1", minting().mint(1, name, 5).redeem(1, Data.i(0))
                    .pay(Tx.owner(2), Tx.value(0, 0, 900, 1, name, 5), Data.i(0)), 0);
        }
    }

    private static void amounts() {
        for (long amount : new long[] {0, -1, -900, -MOST, MOST + 1, Long.MIN_VALUE, Long.MAX_VALUE}) {
            dueValue("AMOUNT " + amount, Tx.value(0, 0, amount), 7);
            dueValue("AMOUNT " + amount + " of POLICY 1", Tx.value(0, 0, 900, 1, 0, amount), 7);
        }
        dueValue("AMOUNT 1, which is too little BASE", Tx.value(0, 0, 1), 11);
        dueValue("AMOUNT 2^62", Tx.value(0, 0, MOST), 11);
        for (long amount : new long[] {1, 2, MOST - 1, MOST}) {
            due("AMOUNT " + amount, minting().mint(1, 5, amount).redeem(1, Data.i(0))
                    .pay(Tx.owner(2), Tx.value(0, 0, 900, 1, 5, amount), Data.i(0)), 0);
        }
    }

    private static void order() {
        dueValue("the same KIND twice", Tx.value(0, 0, 400, 0, 0, 500), 7);
        dueValue("the same KIND of a POLICY twice", Tx.value(0, 0, 900, 1, 5, 1, 1, 5, 1), 7);
        dueValue("POLICIES that fall", Tx.value(2, 0, 5, 1, 0, 5), 7);
        dueValue("POLICIES that fall, with NAMES that rise", Tx.value(2, 0, 5, 1, 9, 5), 7);
        dueValue("BASE behind others", Tx.value(1, 0, 5, 0, 0, 900), 7);
        long[] rising = {0, 1, Long.MAX_VALUE - 1, Long.MAX_VALUE, Long.MIN_VALUE, Long.MIN_VALUE + 1, -2, -1};
        for (int a = 0; a < rising.length; a++) {
            for (int b = 0; b < rising.length; b++) {
                String what = "NAMES " + rising[a] + ", " + rising[b];
                Data value = Tx.value(0, 0, 900, 1, rising[a], 5, 1, rising[b], 5);
                Tx tx = minting().mint(1, rising[Math.min(a, b)], 5).mint(1, rising[Math.max(a, b)], 5)
                        .redeem(1, Data.i(0)).pay(Tx.owner(2), value, Data.i(0));
                due(what, tx, a < b ? 0 : 7);
                tx = minting().mint(1, rising[a], 5).mint(1, rising[b], 5).redeem(1, Data.i(0)).pay(2, 900);
                due("MINT of " + what, tx, a < b ? 11 : 7);
            }
        }
        dueValue("the last NAME of a POLICY, then the first of the next", Tx.value(0, 0, 900, 1, -1, 5, 2, 0, 5), 11);
    }

    private static void mintLikewise() {
        due("MINT of BASE", minting().mint(0, 0, 7).redeem(0, Data.i(0)).pay(2, 907), 7);
        due("MINT of BASE and another", minting().mint(0, 0, 7).mint(1, 0, 7).redeem(1, Data.i(0))
                .pay(Tx.owner(2), Tx.value(0, 0, 907, 1, 0, 7), Data.i(0)), 7);
        due("MINT of BASE that is BURNT", minting().mint(0, 0, -7).redeem(0, Data.i(0)).pay(2, 893), 7);
        for (long policy : new long[] {-1, 3, 33, 1L << 32, (1L << 32) + 1, Long.MIN_VALUE, Long.MAX_VALUE}) {
            due("MINT of POLICY " + policy, minting().mint(policy, 0, 7).redeem(policy, Data.i(0)).pay(2, 900), 7);
        }
        due("MINT of POLICY 2", minting().mint(2, 0, 7).redeem(2, Data.i(0))
                .pay(Tx.owner(2), Tx.value(0, 0, 900, 2, 0, 7), Data.i(0)), 0);
        due("the same KIND twice", minting().mint(1, 5, 3).mint(1, 5, 4).redeem(1, Data.i(0)).pay(2, 900), 7);
        due("NAMES that fall", minting().mint(1, 5, 3).mint(1, 4, 4).redeem(1, Data.i(0)).pay(2, 900), 7);
        due("POLICIES that fall",
                minting().mint(2, 5, 3).mint(1, 6, 4).redeem(1, Data.i(0)).redeem(2, Data.i(0)).pay(2, 900), 7);
    }

    private static void mintAmounts() {
        for (long amount : new long[] {0, MOST + 1, -MOST - 1, Long.MAX_VALUE, Long.MIN_VALUE}) {
            due("MINT of " + amount, minting().mint(1, 5, amount).redeem(1, Data.i(0)).pay(2, 900), 7);
        }
        due("MINT of -2^62", minting().mint(1, 5, -MOST).redeem(1, Data.i(0)).pay(2, 900), 11);
        due("MINT of -1", minting().mint(1, 5, -1).redeem(1, Data.i(0)).pay(2, 900), 11);
        due("MINT of 1", minting().mint(1, 5, 1).redeem(1, Data.i(0))
                .pay(Tx.owner(2), Tx.value(0, 0, 900, 1, 5, 1), Data.i(0)), 0);
        due("MINT of 2^62", minting().mint(1, 5, MOST).redeem(1, Data.i(0))
                .pay(Tx.owner(2), Tx.value(0, 0, 900, 1, 5, MOST), Data.i(0)), 0);
        Bench bench = bench();
        bench.due("2^62", minting().mint(1, 5, MOST).redeem(1, Data.i(0))
                .pay(Tx.owner(1), Tx.value(0, 0, 900, 1, 5, MOST), Data.i(0)), 0);
        bench.due("all of it BURNT", new Tx().in(10).back(9).fee(100).sign(1).mint(1, 5, -MOST).redeem(1, Data.i(0))
                .pay(2, 800), 0);
        Check.due("totalOf(1, 5)", bench.x.totalOf(1, 5), 0);
    }

    private static Tx twoPolicies(long... keys) {
        Data value = Tx.value(0, 0, 900, 1, 5, 7, 1, 6, 7, 2, 5, 7);
        Tx tx = minting().mint(1, 5, 7).mint(1, 6, 7).mint(2, 5, 7).pay(Tx.owner(2), value, Data.i(0));
        for (long key : keys) {
            tx.redeem(key, Data.deep(3));
        }
        return tx;
    }

    private static void redeemers() {
        due("none", twoPolicies(), 7);
        due("the first alone", twoPolicies(1), 7);
        due("the second alone", twoPolicies(2), 7);
        due("both", twoPolicies(1, 2), 0);
        due("one more behind", twoPolicies(1, 2, 3), 7);
        due("one more ahead", twoPolicies(0, 1, 2), 7);
        due("falling", twoPolicies(2, 1), 7);
        due("the first twice", twoPolicies(1, 1), 7);
        due("the first twice and the second", twoPolicies(1, 1, 2), 7);
        due("the second twice", twoPolicies(1, 2, 2), 7);
        due("another one", twoPolicies(1, 3), 7);
        due("2^32 more", twoPolicies(1, (1L << 32) + 2), 7);
        Tx tx = twoPolicies();
        tx.redeemers.addAll(List.of(Data.b(1), Data.i(0), Data.i(2), Data.i(0)));
        due("a key of BYTES", tx, 7);
        tx = twoPolicies(1);
        tx.redeemers.addAll(List.of(Data.l(Data.i(2)), Data.i(0)));
        due("a key in a LIST", tx, 7);
        due("REDEEMERS without MINT", good().redeem(1, Data.i(0)), 7);
        due("REDEEMERS a LIST", with(good().data(), 6, Data.l()), 7);
        due("REDEEMERS a LIST of keys and values", with(twoPolicies(1, 2).data(), 6,
                Data.l(Data.i(1), Data.i(0), Data.i(2), Data.i(0))), 7);
    }

    /** All that a later VERDICT asks for is wrong, too. */
    private static void beforeAllElse() {
        Tx tx = new Tx().in(99).in(99).back(99).valid(5, 4).fee(1).pay(9, 1);
        due("as a TRANSACTION", tx, 8);
        due("SIGNERS that fall", tx.sign(2, 1), 7);
    }
}
