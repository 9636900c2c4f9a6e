import java.io.ByteArrayOutputStream;
import java.math.BigInteger;
import java.util.ArrayList;
import java.util.Arrays;
import java.util.List;
import java.util.TreeMap;

/** The document once more, as plainly as can be: trees, recursion, whole copies of the state, BigInteger. */
final class Model {
    private static final BigInteger MOST = BigInteger.TWO.pow(62);
    private static final int NONE = -1;

    /** A fault of reading, or the failing of a machine. */
    private static final class Stop extends Exception {
        private static final long serialVersionUID = 1L;
        final int code;
        final int place;

        Stop(int code, int place) {
            this.code = code;
            this.place = place;
        }
    }

    record Kind(int policy, long name) implements Comparable<Kind> {
        public int compareTo(Kind other) {
            return policy != other.policy ? Integer.compare(policy, other.policy)
                    : Long.compareUnsigned(name, other.name);
        }
    }

    private static final Kind BASE = new Kind(0, 0);

    static final class Out {
        int address;
        TreeMap<Kind, BigInteger> value = new TreeMap<>();
        Data datum;
        int madeAt;
        int spentAt = NONE;

        Out copy() {
            Out copy = new Out();
            copy.address = address;
            copy.value = value;
            copy.datum = datum;
            copy.madeAt = madeAt;
            copy.spentAt = spentAt;
            return copy;
        }
    }

    private static final class State {
        List<Out> outs = new ArrayList<>();
        BigInteger pot = BigInteger.ZERO;
        int applied;
        int taken;

        State copy() {
            State copy = new State();
            for (Out out : outs) {
                copy.outs.add(out.copy());
            }
            copy.pot = pot;
            copy.applied = applied;
            copy.taken = taken;
            return copy;
        }
    }

    private final int depth;
    private final ByteArrayOutputStream tape = new ByteArrayOutputStream();
    private final List<Term> scripts = new ArrayList<>();
    private final List<Integer> runs = new ArrayList<>();
    private State state = new State();
    /** The state with which each block began, by its height. */
    private final List<State> begun = new ArrayList<>();
    private int undoable;
    private boolean endowing = true;
    private int submitted;
    private long allSteps;
    private int[] latest;

    Model(int depth) {
        this.depth = depth < 1 ? 1 : depth > 64 ? 64 : depth;
        begun.add(state.copy());
    }

    int height() {
        return begun.size() - 1;
    }

    List<Out> outs() {
        return state.outs;
    }

    int scriptCount() {
        return scripts.size();
    }

    boolean giveTape(long v, int n) {
        if (n < 1 || n > 8 || tape.size() + n > 4096) {
            return false;
        }
        byte[] all = BigInteger.valueOf(v).toByteArray();
        byte[] eight = new byte[8];
        Arrays.fill(eight, (byte) (v < 0 ? 255 : 0));
        System.arraycopy(all, 0, eight, 8 - all.length, all.length);
        tape.write(eight, 8 - n, n);
        return true;
    }

    void wipeTape() {
        tape.reset();
    }

    int endowOwner(int owner, long amount) {
        if (!endowing || owner < 0 || owner > 255 || amount < 2 || BigInteger.valueOf(amount).compareTo(MOST) > 0
                || live(BASE).add(BigInteger.valueOf(amount)).compareTo(MOST) > 0 || state.outs.size() >= 1024) {
            return NONE;
        }
        Out out = new Out();
        out.address = owner;
        out.value.put(BASE, BigInteger.valueOf(amount));
        out.datum = Data.i(0);
        out.madeAt = height();
        state.outs.add(out);
        begun.set(0, state.copy());
        return state.outs.size() - 1;
    }

    private BigInteger live(Kind kind) {
        BigInteger sum = BigInteger.ZERO;
        for (Out out : state.outs) {
            if (out.spentAt == NONE) {
                sum = sum.add(out.value.getOrDefault(kind, BigInteger.ZERO));
            }
        }
        return sum;
    }

    // ---- reading

    private byte[] row;
    private int at;
    private int seen;

    private int next() throws Stop {
        if (at >= row.length) {
            throw new Stop(1, row.length);
        }
        return row[at++] & 255;
    }

    private BigInteger head(int[] kind, boolean hasToBeList) throws Stop {
        int start = at;
        int first = next();
        kind[0] = first / 32;
        int low = first % 32;
        if (low >= 28 || kind[0] == 3 || kind[0] == 7 || hasToBeList && kind[0] != 4) {
            throw new Stop(3, start);
        }
        if (low < 24) {
            return BigInteger.valueOf(low);
        }
        BigInteger number = BigInteger.ZERO;
        for (int k = 0; k < 1 << (low - 24); k++) {
            number = number.multiply(BigInteger.valueOf(256)).add(BigInteger.valueOf(next()));
        }
        BigInteger least = low == 24 ? BigInteger.valueOf(24) : BigInteger.TWO.pow(4 << (low - 24));
        if (number.compareTo(least) < 0) {
            throw new Stop(2, start);
        }
        return number;
    }

    private Data data(int deep) throws Stop {
        int start = at;
        int[] kind = new int[1];
        BigInteger number = head(kind, false);
        boolean isWrong = kind[0] <= 1 && number.bitLength() > 63
                || kind[0] == 2 && number.compareTo(BigInteger.valueOf(64)) > 0
                || kind[0] == 6 && !isWithin(number, 121, 127) && !isWithin(number, 1280, 1400);
        if (isWrong) {
            throw new Stop(3, start);
        }
        if (deep > 12) {
            throw new Stop(4, start);
        }
        if (seen == 200) {
            throw new Stop(5, start);
        }
        seen++;
        if (kind[0] == 0) {
            return Data.i(number.longValue());
        }
        if (kind[0] == 1) {
            return Data.i(number.negate().subtract(BigInteger.ONE).longValue());
        }
        if (kind[0] == 2) {
            byte[] bytes = new byte[number.intValue()];
            for (int k = 0; k < bytes.length; k++) {
                bytes[k] = (byte) next();
            }
            return Data.bytesOf(bytes);
        }
        long which = 0;
        if (kind[0] == 6) {
            which = number.longValue() < 128 ? number.longValue() - 121 : number.longValue() - 1273;
            number = head(new int[1], true);
        }
        BigInteger many = kind[0] == 5 ? number.shiftLeft(1) : number;
        List<Data> parts = new ArrayList<>();
        for (BigInteger k = BigInteger.ZERO; k.compareTo(many) < 0; k = k.add(BigInteger.ONE)) {
            parts.add(data(deep + 1));
        }
        return kind[0] == 4 ? Data.l(parts) : kind[0] == 5 ? Data.m(parts) : Data.c(which, parts);
    }

    private static boolean isWithin(BigInteger number, long least, long most) {
        return number.compareTo(BigInteger.valueOf(least)) >= 0 && number.compareTo(BigInteger.valueOf(most)) <= 0;
    }

    private Term term(int deep, int bound) throws Stop {
        int kind = next();
        if (kind > 11) {
            throw new Stop(3, at - 1);
        }
        if (deep > 60) {
            throw new Stop(5, at - 1);
        }
        if (seen == 200) {
            throw new Stop(6, at - 1);
        }
        seen++;
        long number = 0;
        byte[] bytes = null;
        if (kind == 0) {
            number = groups(5, false).longValue();
            if (number < 1 || number > 200) {
                throw new Stop(3, at - 1);
            }
            if (number > bound) {
                throw new Stop(4, 0);
            }
        } else if (kind == 6 || kind == 9) {
            number = next();
            if (number > (kind == 6 ? 31 : 1)) {
                throw new Stop(3, at - 1);
            }
        } else if (kind == 7) {
            number = groups(10, true).longValue();
        } else if (kind == 8) {
            int many = next();
            if (many > 64) {
                throw new Stop(3, at - 1);
            }
            bytes = new byte[many];
            for (int k = 0; k < many; k++) {
                bytes[k] = (byte) next();
            }
        }
        List<Term> parts = new ArrayList<>();
        int many = kind == 2 ? 2 : kind == 1 || kind == 3 || kind == 4 ? 1 : 0;
        for (int k = 0; k < many; k++) {
            parts.add(term(deep + 1, kind == 1 ? bound + 1 : bound));
        }
        return new Term(kind, number, bytes, parts);
    }

    /** Reads groups, and asks whether writing the number again gives the same bytes. */
    private BigInteger groups(int most, boolean isSigned) throws Stop {
        int start = at;
        BigInteger number = BigInteger.ZERO;
        int group;
        int k = 0;
        do {
            group = next();
            k++;
            number = number.add(BigInteger.valueOf(group & 127).shiftLeft(7 * (k - 1)));
            if (k == most && group >= 128) {
                throw new Stop(2, at - 1);
            }
        } while (group >= 128);
        if (isSigned && (group & 64) != 0) {
            number = number.subtract(BigInteger.ONE.shiftLeft(7 * k));
        }
        ByteArrayOutputStream again = new ByteArrayOutputStream();
        if (isSigned) {
            Term.signed(again, number);
        } else {
            Term.unsigned(again, number.longValue());
        }
        boolean fits = isSigned ? number.bitLength() <= 63 : number.bitLength() <= 31;
        if (!fits || !Arrays.equals(again.toByteArray(), Arrays.copyOfRange(row, start, at))) {
            throw new Stop(2, at - 1);
        }
        return number;
    }

    int registerScript() {
        row = tape.toByteArray();
        tape.reset();
        at = 0;
        seen = 0;
        Term term;
        try {
            term = term(1, 0);
        } catch (Stop stop) {
            return -stop.code;
        }
        if (at < row.length) {
            return -7;
        }
        if (term.nodes() > 190) {
            return -8;
        }
        if (scripts.size() == 32) {
            return -9;
        }
        scripts.add(term);
        runs.add(0);
        return scripts.size() - 1;
    }

    // ---- transactions

    private static final class Parsed {
        List<Long> inputs = new ArrayList<>();
        List<Data> redeemers = new ArrayList<>();
        List<Long> collateral = new ArrayList<>();
        List<Out> outs = new ArrayList<>();
        BigInteger fee;
        long first;
        long last;
        TreeMap<Kind, BigInteger> mint;
        TreeMap<Integer, Data> policies = new TreeMap<>();
        List<Integer> signers = new ArrayList<>();
        Data all;
    }

    private static boolean is(Data d, char form, int least, int most) {
        return d.form() == form && d.parts().size() >= least && d.parts().size() <= most;
    }

    private static boolean isCon(Data d, long number, int fields) {
        return is(d, 'c', fields, fields) && d.number() == number;
    }

    private Parsed parse(Data d) {
        if (!isCon(d, 0, 8)) {
            return null;
        }
        Parsed p = new Parsed();
        p.all = d;
        List<Data> f = d.parts();
        if (!is(f.get(0), 'l', 1, 8) || !is(f.get(1), 'l', 0, 4) || !is(f.get(2), 'l', 0, 8)) {
            return null;
        }
        for (Data input : f.get(0).parts()) {
            if (!isCon(input, 0, 2) || input.parts().get(0).form() != 'i') {
                return null;
            }
            p.inputs.add(input.parts().get(0).number());
            p.redeemers.add(input.parts().get(1));
        }
        for (Data number : f.get(1).parts()) {
            if (number.form() != 'i') {
                return null;
            }
            p.collateral.add(number.number());
        }
        for (Data output : f.get(2).parts()) {
            Out out = parseOut(output);
            if (out == null) {
                return null;
            }
            p.outs.add(out);
        }
        return parseRest(p, f) ? p : null;
    }

    private boolean parseRest(Parsed p, List<Data> f) {
        if (f.get(3).form() != 'i') {
            return false;
        }
        p.fee = BigInteger.valueOf(f.get(3).number());
        if (p.fee.signum() < 0 || p.fee.compareTo(MOST) > 0) {
            return false;
        }
        Data validity = f.get(4);
        if (!is(validity, 'l', 2, 2) || validity.parts().get(0).form() != 'i' || validity.parts().get(1).form() != 'i') {
            return false;
        }
        p.first = validity.parts().get(0).number();
        p.last = validity.parts().get(1).number();
        p.mint = parseValue(f.get(5), 0, true);
        if (p.mint == null || !is(f.get(6), 'm', 0, 16) || !is(f.get(7), 'l', 0, 8)) {
            return false;
        }
        List<Integer> keys = new ArrayList<>();
        for (int k = 0; k < f.get(6).parts().size(); k += 2) {
            Data key = f.get(6).parts().get(k);
            if (key.form() != 'i' || key.number() < 1 || key.number() > 32) {
                return false;
            }
            keys.add((int) key.number());
            p.policies.put((int) key.number(), f.get(6).parts().get(k + 1));
        }
        List<Integer> due = new ArrayList<>();
        for (Kind kind : p.mint.keySet()) {
            if (!due.contains(kind.policy)) {
                due.add(kind.policy);
            }
        }
        if (!due.equals(keys)) {
            return false;
        }
        for (Data signer : f.get(7).parts()) {
            if (signer.form() != 'i' || signer.number() < 0 || signer.number() > 255) {
                return false;
            }
            if (!p.signers.isEmpty() && p.signers.get(p.signers.size() - 1) >= signer.number()) {
                return false;
            }
            p.signers.add((int) signer.number());
        }
        return true;
    }

    private Out parseOut(Data d) {
        if (!isCon(d, 0, 3)) {
            return null;
        }
        Out out = new Out();
        Data address = d.parts().get(0);
        if (address.form() != 'c' || address.parts().size() != 1 || address.parts().get(0).form() != 'i') {
            return null;
        }
        long number = address.parts().get(0).number();
        if (address.number() == 0 && number >= 0 && number <= 255) {
            out.address = (int) number;
        } else if (address.number() == 1 && number >= 0 && number < scripts.size()) {
            out.address = 256 + (int) number;
        } else {
            return null;
        }
        out.value = parseValue(d.parts().get(1), 1, false);
        out.datum = d.parts().get(2);
        return out.value == null || out.datum.encode().length > 128 ? null : out;
    }

    private TreeMap<Kind, BigInteger> parseValue(Data d, int least, boolean isMint) {
        if (!is(d, 'l', least, 8)) {
            return null;
        }
        TreeMap<Kind, BigInteger> value = new TreeMap<>();
        for (Data coin : d.parts()) {
            if (!is(coin, 'l', 3, 3)) {
                return null;
            }
            for (Data number : coin.parts()) {
                if (number.form() != 'i') {
                    return null;
                }
            }
            long policy = coin.parts().get(0).number();
            long name = coin.parts().get(1).number();
            BigInteger amount = BigInteger.valueOf(coin.parts().get(2).number());
            if (policy < 0 || policy > scripts.size() || policy == 0 && (name != 0 || isMint)) {
                return null;
            }
            if (amount.abs().compareTo(MOST) > 0 || amount.signum() == 0 || !isMint && amount.signum() < 0) {
                return null;
            }
            Kind kind = new Kind((int) policy, name);
            if (!value.isEmpty() && value.lastKey().compareTo(kind) >= 0) {
                return null;
            }
            value.put(kind, amount);
        }
        return value;
    }

    private Out liveOut(long number) {
        if (number < 0 || number >= state.outs.size()) {
            return null;
        }
        Out out = state.outs.get((int) number);
        return out.spentAt == NONE ? out : null;
    }

    int submitTape() {
        endowing = false;
        submitted++;
        row = tape.toByteArray();
        tape.reset();
        at = 0;
        seen = 0;
        latest = new int[] {0, NONE, 0, NONE, NONE, NONE, NONE, row.length};
        latest[0] = verdict();
        return latest[0];
    }

    private int verdict() {
        Data d;
        try {
            d = data(1);
        } catch (Stop stop) {
            latest[1] = stop.place;
            return stop.code;
        }
        if (at < row.length) {
            return 6;
        }
        Parsed p = parse(d);
        if (p == null) {
            return 7;
        }
        int verdict = phaseOne(p);
        if (verdict != 0) {
            return verdict;
        }
        if (!phaseTwo(p)) {
            for (long number : p.collateral) {
                Out out = liveOut(number);
                out.spentAt = height();
                state.pot = state.pot.add(out.value.get(BASE));
            }
            state.taken++;
            return 20;
        }
        for (long number : p.inputs) {
            liveOut(number).spentAt = height();
        }
        for (Out out : p.outs) {
            out.madeAt = height();
            state.outs.add(out);
        }
        state.pot = state.pot.add(p.fee);
        state.applied++;
        return 0;
    }

    private boolean asks(Parsed p) {
        boolean asks = !p.mint.isEmpty();
        for (long number : p.inputs) {
            asks |= liveOut(number).address >= 256;
        }
        return asks;
    }

    private static void addTo(TreeMap<Kind, BigInteger> sums, Kind kind, BigInteger amount) {
        sums.merge(kind, amount, BigInteger::add);
    }

    private TreeMap<Kind, BigInteger> spent(Parsed p) {
        TreeMap<Kind, BigInteger> spent = new TreeMap<>();
        for (long number : p.inputs) {
            liveOut(number).value.forEach((kind, amount) -> addTo(spent, kind, amount));
        }
        return spent;
    }

    private int phaseOne(Parsed p) {
        List<Long> met = new ArrayList<>();
        List<Long> all = new ArrayList<>(p.inputs);
        all.addAll(p.collateral);
        for (long number : all) {
            if (liveOut(number) == null || met.contains(number)) {
                return 8;
            }
            met.add(number);
        }
        if (height() < p.first || height() > p.last) {
            return 9;
        }
        if (p.fee.compareTo(BigInteger.valueOf(10 + row.length / 8)) < 0) {
            return 10;
        }
        TreeMap<Kind, BigInteger> rest = spent(p);
        p.mint.forEach((kind, amount) -> addTo(rest, kind, amount));
        for (Out out : p.outs) {
            out.value.forEach((kind, amount) -> addTo(rest, kind, amount.negate()));
        }
        addTo(rest, BASE, p.fee.negate());
        for (BigInteger amount : rest.values()) {
            if (amount.signum() != 0) {
                return 11;
            }
        }
        for (Kind kind : p.mint.keySet()) {
            if (live(kind).add(p.mint.get(kind)).compareTo(MOST) > 0) {
                return 11;
            }
        }
        for (long number : all) {
            Out out = liveOut(number);
            if (out.address < 256 && !p.signers.contains(out.address)) {
                return 12;
            }
        }
        return phaseOneEnd(p);
    }

    private int phaseOneEnd(Parsed p) {
        if (asks(p)) {
            BigInteger base = BigInteger.ZERO;
            for (long number : p.collateral) {
                Out out = liveOut(number);
                if (out.address >= 256 || !out.value.keySet().equals(java.util.Set.of(BASE))) {
                    return 13;
                }
                base = base.add(out.value.get(BASE));
            }
            if (p.collateral.isEmpty() || base.compareTo(p.fee.shiftLeft(1)) < 0) {
                return 13;
            }
        }
        for (Out out : p.outs) {
            if (out.value.getOrDefault(BASE, BigInteger.ZERO).compareTo(BigInteger.TWO) < 0) {
                return 14;
            }
        }
        if (state.outs.size() + p.outs.size() > 1024) {
            return 15;
        }
        return asks(p) && context(p, 0, 0).nodes() > 200 ? 16 : 0;
    }

    private Data context(Parsed p, long what, long number) {
        List<Data> spent = new ArrayList<>();
        spent(p).forEach((kind, amount) -> spent.add(
                Data.l(Data.i(kind.policy), Data.i(kind.name), Data.i(amount.longValueExact()))));
        List<Data> paid = new ArrayList<>();
        for (int k = 0; k < p.outs.size(); k++) {
            Data address = p.all.parts().get(2).parts().get(k).parts().get(0);
            BigInteger base = p.outs.get(k).value.getOrDefault(BASE, BigInteger.ZERO);
            paid.add(Data.c(0, address, Data.i(base.longValueExact())));
        }
        List<Data> f = p.all.parts();
        return Data.c(0, Data.i(what), Data.i(number), f.get(3), f.get(4), f.get(7), f.get(5),
                Data.l(spent), Data.l(paid));
    }

    private boolean phaseTwo(Parsed p) {
        for (int k = 0; k < p.inputs.size(); k++) {
            Out out = liveOut(p.inputs.get(k));
            if (out.address >= 256 && !accepts(out.address - 256,
                    out.datum, p.redeemers.get(k), context(p, 0, p.inputs.get(k)))) {
                return false;
            }
        }
        for (int policy : p.policies.keySet()) {
            if (!accepts(policy - 1, p.policies.get(policy), context(p, 1, policy))) {
                return false;
            }
        }
        return true;
    }

    private boolean accepts(int script, Data... arguments) {
        ModelMachine machine = new ModelMachine();
        machine.run(scripts.get(script), arguments);
        runs.set(script, runs.get(script) + 1);
        latest[2]++;
        latest[3] = machine.answer;
        latest[4] = machine.steps;
        latest[5] = machine.memory;
        latest[6] = machine.answer == 0 ? machine.result.kind() : NONE;
        allSteps += machine.steps;
        return machine.answer == 0 && machine.result.kind() == 2 && machine.result.number() == 1;
    }

    // ---- blocks and what is told

    int closeBlock() {
        endowing = false;
        begun.add(state.copy());
        undoable = Math.min(undoable + 1, depth);
        return height();
    }

    int undoBlocks(int n) {
        endowing = false;
        if (n < 0 || n > undoable) {
            return NONE;
        }
        for (int k = 0; k < n; k++) {
            begun.remove(begun.size() - 1);
        }
        undoable -= n;
        state = begun.get(begun.size() - 1).copy();
        return height();
    }

    private Out out(int number) {
        return number < 0 || number >= state.outs.size() ? null : state.outs.get(number);
    }

    int outputOf(int number, int what) {
        Out out = out(number);
        if (out == null || what < 0 || what > 5) {
            return NONE;
        }
        int[] all = {out.address, out.spentAt == NONE ? 1 : 0, out.madeAt, out.spentAt,
            out.value.size(), out.datum.encode().length};
        return all[what];
    }

    /** Null if it throws. */
    Long coinOf(int number, int i, int what) {
        Out out = out(number);
        if (out == null || i < 0 || i >= out.value.size() || what < 0 || what > 2) {
            return null;
        }
        Kind kind = new ArrayList<>(out.value.keySet()).get(i);
        return what == 0 ? Long.valueOf(kind.policy) : what == 1 ? Long.valueOf(kind.name)
                : Long.valueOf(out.value.get(kind).longValueExact());
    }

    int datumOf(int number, int k) {
        Out out = out(number);
        if (out == null || k < 0 || k >= out.datum.encode().length) {
            return NONE;
        }
        return out.datum.encode()[k] & 255;
    }

    long totalOf(int policy, long name) {
        Kind kind = new Kind(policy, name);
        BigInteger sum = live(kind);
        return (kind.equals(BASE) ? sum.add(state.pot) : sum).longValueExact();
    }

    int ownedBy(int address, int i) {
        List<Integer> owned = new ArrayList<>();
        for (int number = 0; number < state.outs.size(); number++) {
            if (state.outs.get(number).spentAt == NONE && state.outs.get(number).address == address) {
                owned.add(number);
            }
        }
        return i < 0 || i >= owned.size() ? NONE : owned.get(i);
    }

    int latestOf(int which) {
        return latest == null || which < 0 || which > 7 ? NONE : latest[which];
    }

    int scriptOf(int script, int what) {
        if (script < 0 || script >= scripts.size() || what < 0 || what > 3) {
            return NONE;
        }
        Term term = scripts.get(script);
        return new int[] {term.nodes(), term.depth(), term.encode().length, runs.get(script)}[what];
    }

    long lookAt(int which) {
        int live = 0;
        for (Out out : state.outs) {
            live += out.spentAt == NONE ? 1 : 0;
        }
        long[] all = {state.pot.longValueExact(), height(), state.outs.size(), live, undoable, scripts.size(),
            tape.size(), state.applied, state.taken, submitted, allSteps};
        return which < 0 || which > 10 ? NONE : all[which];
    }
}
