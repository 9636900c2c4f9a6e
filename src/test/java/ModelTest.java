import java.util.ArrayList;
import java.util.Arrays;
import java.util.List;
import java.util.Random;
import java.util.TreeMap;
import java.util.TreeSet;

/** Many runs of calls by seeds, each answer against the one of the model; none has more than 512 calls. */
public final class ModelTest {
    private static final int RUNS = 2500;
    private static final int ROUNDS = 60;
    /** What a round may need beside the calls for its bytes. */
    private static final int ROUND_CALLS = 30;
    private static final long MOST = 1L << 62;

    private static final int[] met = new int[21];
    private static final int[] machineMet = new int[7];
    private static final int[] kindsMet = new int[8];

    private final Random random;
    private final Random0 maker;
    private final Face x;
    private final Model model;
    private final String name;
    private boolean isOver;

    private ModelTest(long seed) {
        random = new Random(seed);
        maker = new Random0(random);
        int depth = random.nextInt(8) - 1;
        x = new Face(depth);
        model = new Model(depth);
        name = "seed " + seed + ": ";
    }

    public static void main(String[] args) {
        int runs = args.length > 1 ? Integer.parseInt(args[1]) : RUNS;
        for (int seed = 1; seed <= runs && Check.isGood(); seed++) {
            new ModelTest(seed).go();
        }
        for (int verdict = 0; verdict < met.length; verdict++) {
            boolean hasToBe = verdict < 15 || verdict == 20;
            Check.due("verdict " + verdict + " was met", met[verdict] > 0 || !hasToBe, true);
        }
        for (int answer = 0; answer < 4; answer++) {
            Check.due("answer " + answer + " of the machine was met", machineMet[answer] > 0, true);
        }
        if (args.length > 1) {
            System.out.println(Arrays.toString(met) + Arrays.toString(machineMet) + Arrays.toString(kindsMet));
        }
        Check.end();
    }

    private int below(int n) {
        return random.nextInt(n);
    }

    private void go() {
        endow();
        int scripts = 1 + below(5);
        for (int k = 0; k < scripts; k++) {
            register();
        }
        if (below(2) == 0) {
            endow();
        }
        for (int round = 0; round < ROUNDS && !isOver && Check.isGood(); round++) {
            switch (below(20)) {
                case 0: register(); break;
                case 1: close(); break;
                case 2: undo(); break;
                case 3: endow(); break;
                case 4: wrongBytes(); break;
                default: submit(); break;
            }
            isOver = isOver || x.callsLeft() < 2 * ROUND_CALLS;
            if (!isOver) {
                lookAround();
            }
        }
        lookAtOutputs();
    }

    /** False if there are too few calls left for that. */
    private boolean give(byte[] bytes) {
        isOver = bytes.length / 2 + ROUND_CALLS > x.callsLeft();
        if (isOver) {
            return false;
        }
        for (int at = 0; at < bytes.length;) {
            int n = Math.min(below(3) == 0 ? 2 + below(7) : 8, bytes.length - at);
            long v = 0;
            for (int k = 0; k < n; k++) {
                v = v << 8 | bytes[at + k] & 255;
            }
            // What lies above the lowest n bytes does not count.
            long noise = n < 8 ? random.nextLong() << (8 * n) : 0;
            Check.due(name + "giveTape", x.giveTape(v ^ noise, n), model.giveTape(v ^ noise, n));
            at += n;
        }
        return true;
    }

    private void endow() {
        int many = Math.min(1 + below(below(3) == 0 ? 4 : 24), x.callsLeft() - 2 * ROUND_CALLS);
        for (int k = 0; k < many; k++) {
            int owner = below(12) == 0 ? 254 + below(4) : below(4) - (below(9) == 0 ? 1 : 0);
            long amount = below(15) == 0 ? maker.number() : below(10) == 0 ? MOST / 2 : 500 + below(100000);
            Check.due(name + "endowOwner(" + owner + ", " + amount + ")",
                    x.endowOwner(owner, amount), model.endowOwner(owner, amount));
        }
    }

    private void register() {
        byte[] bytes = maker.script(2 + below(2)).encode();
        switch (below(8)) {
            case 0: bytes = broken(bytes); break;
            case 1: bytes = Term.lams(3, Term.t(1)).encode(); break;
            case 2: bytes = Term.lams(2, Term.t(1)).encode(); break;
            default: break;
        }
        registerGiven(bytes);
    }

    private void registerGiven(byte[] bytes) {
        if (give(bytes)) {
            Check.due(name + "registerScript()", x.registerScript(), model.registerScript());
        }
    }

    private byte[] broken(byte[] bytes) {
        byte[] row = bytes.clone();
        int times = 1 + below(2);
        for (int k = 0; k < times && row.length > 0; k++) {
            int at = below(row.length);
            switch (below(5)) {
                case 0: row[at] = (byte) below(256); break;
                case 1: row[at] ^= (byte) (1 << below(8)); break;
                case 2: row = Arrays.copyOf(row, at); break;
                case 3: row = Arrays.copyOf(row, row.length + 1); break;
                default: {
                    byte[] more = new byte[row.length + 1];
                    System.arraycopy(row, 0, more, 0, at);
                    more[at] = (byte) below(256);
                    System.arraycopy(row, at, more, at + 1, row.length - at);
                    row = more;
                    break;
                }
            }
        }
        return row;
    }

    private void wrongBytes() {
        byte[] row;
        if (below(2) == 0) {
            row = broken(Data.l(maker.data(4 + below(10)), Data.deep(9 + below(4)), Data.wide(160 + below(50))).encode());
        } else {
            row = new byte[below(40)];
            random.nextBytes(row);
        }
        if (below(2) == 0) {
            submitGiven(row);
        } else {
            registerGiven(row);
        }
    }

    private void close() {
        Check.due(name + "closeBlock()", x.closeBlock(), model.closeBlock());
    }

    private void undo() {
        int n = below(4) - (below(6) == 0 ? 1 : 0);
        Check.due(name + "undoBlocks(" + n + ")", x.undoBlocks(n), model.undoBlocks(n));
    }

    private void submit() {
        byte[] bytes = transaction().encode();
        if (below(12) == 0) {
            bytes = broken(bytes);
        }
        submitGiven(bytes);
    }

    private void submitGiven(byte[] bytes) {
        if (!give(bytes)) {
            return;
        }
        int verdict = model.submitTape();
        Check.due(name + "submitTape()", x.submitTape(), verdict);
        met[verdict]++;
        if (model.latestOf(3) >= 0) {
            machineMet[model.latestOf(3)]++;
        }
        if (model.latestOf(6) >= 0) {
            kindsMet[model.latestOf(6)]++;
        }
    }

    private List<Integer> live() {
        List<Integer> live = new ArrayList<>();
        for (int number = 0; number < model.outs().size(); number++) {
            if (model.outs().get(number).spentAt < 0) {
                live.add(number);
            }
        }
        return live;
    }

    private Data transaction() {
        Tx tx = new Tx();
        List<Integer> live = live();
        java.util.Collections.shuffle(live, random);
        TreeMap<Model.Kind, Long> left = new TreeMap<>();
        TreeSet<Integer> signers = new TreeSet<>();
        boolean asks = false;
        int inputs = Math.min(live.size(), 1 + (below(4) == 0 ? below(8) : below(2)));
        for (int k = 0; k < inputs; k++) {
            int number = live.remove(0);
            Model.Out out = model.outs().get(number);
            out.value.forEach((kind, amount) -> left.merge(kind, amount.longValueExact(), Long::sum));
            tx.in(number, maker.data(1 + below(3)));
            asks |= out.address >= 256;
            if (out.address < 256) {
                signers.add(out.address);
            }
        }
        if (below(3) == 0) {
            asks |= mint(tx, left);
        }
        for (int number : live) {
            Model.Out out = model.outs().get(number);
            boolean isEnough = out.value.firstEntry().getValue().longValueExact() >= 100;
            if (asks && isEnough && out.address < 256 && out.value.size() == 1 && tx.collateral.size() < 1) {
                tx.back(number);
                signers.add(out.address);
            }
        }
        pay(tx, left);
        for (int signer : signers) {
            tx.sign(signer);
        }
        spoil(tx, live);
        return tx.data();
    }

    private boolean mint(Tx tx, TreeMap<Model.Kind, Long> left) {
        if (model.scriptCount() == 0) {
            return false;
        }
        TreeMap<Model.Kind, Long> minted = new TreeMap<>();
        int many = 1 + below(3);
        for (int k = 0; k < many; k++) {
            Model.Kind kind = new Model.Kind(1 + below(model.scriptCount()), below(3) - 1);
            long had = left.getOrDefault(kind, 0L);
            long amount = below(12) == 0 ? MOST : below(3) == 0 && had > 0 ? -had : 1 + below(1000);
            if (!minted.containsKey(kind) && had + amount >= 0) {
                minted.put(kind, amount);
                left.merge(kind, amount, Long::sum);
            }
        }
        TreeSet<Integer> policies = new TreeSet<>();
        minted.forEach((kind, amount) -> {
            tx.mint(kind.policy(), kind.name(), amount);
            policies.add(kind.policy());
        });
        for (int policy : policies) {
            tx.redeem(policy, maker.data(1 + below(3)));
        }
        return !minted.isEmpty();
    }

    private void pay(Tx tx, TreeMap<Model.Kind, Long> left) {
        Model.Kind base = new Model.Kind(0, 0);
        long all = left.getOrDefault(base, 0L);
        int outputs = 1 + (below(4) == 0 ? below(7) : below(3));
        int signers = 4;
        long size = 30 + 40L * outputs + 20L * left.size() + 20L * tx.inputs.size() + signers;
        tx.fee(Math.min(all, 10 + size / 4 + below(20)));
        all -= tx.fee;
        for (int k = 0; k < outputs; k++) {
            boolean isLast = k == outputs - 1;
            TreeMap<Model.Kind, Long> value = new TreeMap<>();
            long share = isLast ? all : all / (outputs - k) / (1 + below(2));
            all -= share;
            if (share > 0) {
                value.put(base, share);
            }
            for (Model.Kind kind : new ArrayList<>(left.keySet())) {
                long had = left.get(kind);
                long given = isLast || below(3) == 0 ? had : had / 2;
                if (!kind.equals(base) && given > 0 && value.size() < 8) {
                    value.put(kind, given);
                    left.put(kind, had - given);
                }
            }
            List<Data> coins = new ArrayList<>();
            value.forEach((kind, amount) -> coins.add(
                    Data.l(Data.i(kind.policy()), Data.i(kind.name()), Data.i(amount))));
            boolean isScript = below(2) == 0 && model.scriptCount() > 0;
            Data address = isScript ? Tx.script(below(model.scriptCount())) : Tx.owner(below(4));
            tx.pay(address, Data.l(coins), maker.data(1 + below(3)));
        }
    }

    /** One thing or another is wrong, now and then. */
    private void spoil(Tx tx, List<Integer> others) {
        switch (below(70)) {
            case 0: tx.in(maker.number()); break;
            case 1: tx.inputs.add(tx.inputs.isEmpty() ? Data.i(0) : tx.inputs.get(0)); break;
            case 2: tx.back(maker.number()); break;
            case 3: tx.back(others.isEmpty() ? 0 : others.get(below(others.size()))); break;
            case 4: tx.collateral.clear(); break;
            case 5: tx.collateral.add(tx.inputs.isEmpty() ? Data.i(0) : tx.inputs.get(0).parts().get(0)); break;
            case 6: tx.valid(model.height() + below(3) - 1, model.height() + below(3) - 1); break;
            case 7: tx.fee(below(30)); break;
            case 8: tx.fee(maker.number()); break;
            case 9: tx.signers.clear(); break;
            case 10: tx.sign(below(300)); break;
            case 11: tx.mint(below(4), maker.number(), maker.number()); break;
            case 12: tx.redeem(1 + below(3), maker.data(2)); break;
            case 13: tx.redeemers.clear(); break;
            case 14: tx.outputs.clear(); break;
            case 15: tx.pay(Tx.owner(below(258)), Tx.value(0, 0, below(4)), Data.i(0)); break;
            case 16: tx.pay(Tx.script(below(8)), Tx.value(0, 0, 5, below(4), maker.number(), 3), Data.i(0)); break;
            case 17: tx.pay(Tx.owner(1), Tx.value(0, 0, 5), maker.data(8)); break;
            case 18: tx.inputs.add(0, maker.data(3)); break;
            case 19: tx.outputs.add(maker.data(3)); break;
            case 20: tx.valid(maker.number(), maker.number()); break;
            case 21: {
                List<Data> signers = new ArrayList<>(tx.signers);
                java.util.Collections.reverse(signers);
                tx.signers.clear();
                tx.signers.addAll(signers);
                break;
            }
            case 22: {
                while (tx.signers.size() < 9) {
                    tx.sign(100 + tx.signers.size());
                }
                break;
            }
            case 23: tx.back(-1).back(1).back(2).back(3).back(4); break;
            default: break;
        }
    }

    /** Some questions of each sort, at most 15. */
    private void lookAround() {
        for (int k = 0; k < 4; k++) {
            int which = below(13) - 1;
            Check.due(name + "lookAt(" + which + ")", x.lookAt(which), model.lookAt(which));
        }
        for (int k = 0; k < 5; k++) {
            int which = below(10) - 1;
            Check.due(name + "latestOf(" + which + ")", x.latestOf(which), model.latestOf(which));
        }
        int script = below(8) - 1;
        int what = below(6) - 1;
        Check.due(name + "scriptOf(" + script + ", " + what + ")", x.scriptOf(script, what), model.scriptOf(script, what));
        int address = below(3) == 0 ? 256 + below(5) : below(5) - 1;
        int i = below(6) - 1;
        Check.due(name + "ownedBy(" + address + ", " + i + ")", x.ownedBy(address, i), model.ownedBy(address, i));
        int policy = below(5) - 1;
        long kind = below(4) - 1;
        Check.due(name + "totalOf(" + policy + ", " + kind + ")", x.totalOf(policy, kind), model.totalOf(policy, kind));
        if (below(2) == 0) {
            lookAt(below(model.outs().size() + 2) - 1);
        }
    }

    /** One OUTPUT after the other, the latest ones first, as long as there are calls left. */
    private void lookAtOutputs() {
        for (int number = model.outs().size(); number >= -1 && x.callsLeft() >= 3; number--) {
            lookAt(number);
        }
    }

    private void lookAt(int number) {
        int what = below(8) - 1;
        Check.due(name + "outputOf(" + number + ", " + what + ")", x.outputOf(number, what), model.outputOf(number, what));
        int k = below(12) - 1;
        Check.due(name + "datumOf(" + number + ", " + k + ")", x.datumOf(number, k), model.datumOf(number, k));
        int i = below(4) - 1;
        int which = below(5) - 1;
        Long want = model.coinOf(number, i, which);
        Long got = null;
        try {
            got = x.coinOf(number, i, which);
        } catch (IndexOutOfBoundsException e) {
            Check.due(name + "coinOf throws", want == null, true);
        }
        Check.due(name + "coinOf(" + number + ", " + i + ", " + which + ")", got == null ? 0 : got, want == null ? 0 : want);
        Check.due(name + "coinOf throws as it has to", got == null, want == null);
    }
}
