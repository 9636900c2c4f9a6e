import java.util.ArrayList;
import java.util.List;

/** A TRANSACTION that is put together. */
final class Tx {
    final List<Data> inputs = new ArrayList<>();
    final List<Data> collateral = new ArrayList<>();
    final List<Data> outputs = new ArrayList<>();
    long fee;
    long first = 0;
    long last = 1000000;
    final List<Data> mint = new ArrayList<>();
    final List<Data> redeemers = new ArrayList<>();
    final List<Data> signers = new ArrayList<>();

    Tx in(long number) {
        return in(number, Data.i(0));
    }

    Tx in(long number, Data redeemer) {
        inputs.add(Data.c(0, Data.i(number), redeemer));
        return this;
    }

    Tx back(long number) {
        collateral.add(Data.i(number));
        return this;
    }

    Tx pay(int owner, long base) {
        return pay(owner(owner), value(0, 0, base), Data.i(0));
    }

    Tx payScript(int script, long base, Data datum) {
        return pay(script(script), value(0, 0, base), datum);
    }

    Tx pay(Data address, Data value, Data datum) {
        outputs.add(Data.c(0, address, value, datum));
        return this;
    }

    Tx fee(long amount) {
        fee = amount;
        return this;
    }

    Tx valid(long from, long to) {
        first = from;
        last = to;
        return this;
    }

    Tx mint(long policy, long name, long amount) {
        mint.add(Data.l(Data.i(policy), Data.i(name), Data.i(amount)));
        return this;
    }

    Tx redeem(long policy, Data redeemer) {
        redeemers.add(Data.i(policy));
        redeemers.add(redeemer);
        return this;
    }

    Tx sign(int... owners) {
        for (int owner : owners) {
            signers.add(Data.i(owner));
        }
        return this;
    }

    static Data owner(long owner) {
        return Data.c(0, Data.i(owner));
    }

    static Data script(long script) {
        return Data.c(1, Data.i(script));
    }

    /** POLICY, NAME, AMOUNT, of as many KINDS as one likes. */
    static Data value(long... numbers) {
        List<Data> kinds = new ArrayList<>();
        for (int k = 0; k + 2 < numbers.length; k += 3) {
            kinds.add(Data.l(Data.i(numbers[k]), Data.i(numbers[k + 1]), Data.i(numbers[k + 2])));
        }
        return Data.l(kinds);
    }

    Data data() {
        return Data.c(0, Data.l(inputs), Data.l(collateral), Data.l(outputs), Data.i(fee),
                Data.l(Data.i(first), Data.i(last)), Data.l(mint), Data.m(redeemers), Data.l(signers));
    }

    byte[] encode() {
        return data().encode();
    }
}
