import java.util.Arrays;
import java.util.List;
import java.util.Random;

/** Scripts by seeds, as policies and as owners of outputs; what their runs come to against the model. */
public final class MachineModelTest {
    private static final int SEEDS = 1200;
    private static final int SCRIPTS = 4;
    private static final int[] met = new int[7];

    private final Random random;
    private final Random0 maker;
    private final Face x = new Face(1);
    private final Model model = new Model(1);
    private final String name;

    private MachineModelTest(long seed) {
        random = new Random(seed);
        maker = new Random0(random);
        name = "seed " + seed + ": ";
    }

    public static void main(String[] args) {
        int seeds = args.length > 1 ? Integer.parseInt(args[1]) : SEEDS;
        for (int seed = 1; seed <= seeds && Check.isGood(); seed++) {
            new MachineModelTest(seed).go();
        }
        for (int answer = 0; answer < met.length; answer++) {
            Check.due("answer " + answer + " was met", met[answer] > 0, true);
        }
        if (args.length > 1) {
            System.out.println(Arrays.toString(met));
        }
        Check.end();
    }

    private int below(int n) {
        return random.nextInt(n);
    }

    private void go() {
        for (int k = 0; k < 4 * SCRIPTS; k++) {
            Check.due(name + "endowOwner", x.endowOwner(1, 10000), model.endowOwner(1, 10000));
        }
        for (int k = 0; k < SCRIPTS; k++) {
            Term term = below(3) == 0 ? loop() : below(3) == 0 ? wildScript() : maker.script(2 + below(2));
            give(term.encode());
            Check.due(name + "registerScript()", x.registerScript(), model.registerScript());
        }
        for (int script = 0; script < model.scriptCount() && x.callsLeft() > 150 && Check.isGood(); script++) {
            mint(script);
            spend(script);
        }
    }

    private void give(byte[] bytes) {
        for (int at = 0; at < bytes.length; at += 8) {
            int n = Math.min(8, bytes.length - at);
            long v = 0;
            for (int k = 0; k < n; k++) {
                v = v << 8 | bytes[at + k] & 255;
            }
            Check.due(name + "giveTape", x.giveTape(v, n), model.giveTape(v, n));
        }
    }

    private int liveOf(int address) {
        return model.ownedBy(address, 0);
    }

    private void mint(int script) {
        Tx tx = new Tx().in(liveOf(1)).back(model.ownedBy(1, 1)).sign(1).fee(200);
        long base = model.coinOf(liveOf(1), 0, 2);
        tx.mint(1 + script, 5, 7).redeem(1 + script, maker.data(1 + below(4)));
        tx.pay(Tx.owner(1 + below(2)), Tx.value(0, 0, base - 200, 1 + script, 5, 7), Data.i(0));
        submit(tx);
    }

    private void spend(int script) {
        long base = model.coinOf(liveOf(1), 0, 2);
        Tx tx = new Tx().in(liveOf(1)).sign(1).fee(200);
        Data datum = maker.data(1 + below(4));
        if (datum.encode().length > 128 || base < 300) {
            datum = Data.i(maker.number());
        }
        tx.payScript(script, base - 200, datum);
        submit(tx);
        if (model.latestOf(0) != 0) {
            return;
        }
        int number = liveOf(256 + script);
        tx = new Tx().in(number, maker.data(1 + below(4))).back(liveOf(1)).sign(1).fee(200);
        tx.pay(2, model.coinOf(number, 0, 2) - 200);
        submit(tx);
    }

    private void submit(Tx tx) {
        give(tx.encode());
        Check.due(name + "submitTape()", x.submitTape(), model.submitTape());
        for (int which = 0; which < 8; which++) {
            Check.due(name + "latestOf(" + which + ")", x.latestOf(which), model.latestOf(which));
        }
        Check.due(name + "lookAt(10)", x.lookAt(10), model.lookAt(10));
        if (model.latestOf(3) >= 0) {
            met[model.latestOf(3)]++;
        }
    }

    /** A function that is applied to itself within itself, somewhere. */
    private Term loop() {
        Term self = Term.lam(around(2 + below(5), 1));
        return Term.lams(2 + below(2), Term.app(self, self));
    }

    private Term around(int fuel, int bound) {
        if (fuel == 0) {
            return Term.app(Term.v(bound), Term.v(bound));
        }
        switch (below(8)) {
            case 0: return Term.force(Term.delay(around(fuel - 1, bound)));
            case 1: return Term.app(Term.lam(Term.unit()), around(fuel - 1, bound));
            case 2: return Term.app(Term.lam(around(fuel - 1, bound + 1)), small(bound));
            case 3: return Term.app(Term.lam(around(fuel - 1, bound + 1)),
                    Term.fn(17, Term.v(bound + 1), Term.v(bound + 1)));
            case 4: return Term.app(Term.lam(around(fuel - 1, bound + 1)),
                    Term.fn(28, Term.v(bound + 1), Term.empty()));
            case 5: return Term.force(Term.fn(16, Term.t(1), Term.delay(around(fuel - 1, bound)), Term.unit()));
            case 6: return Term.app(Term.lam(around(fuel - 1, bound + 1)), Term.fn(10, Term.ss(below(33)), Term.ss(32)));
            default: return Term.app(around(fuel - 1, bound), small(bound));
        }
    }

    private Term small(int bound) {
        switch (below(4)) {
            case 0: return Term.v(1 + below(bound + 1));
            case 1: return Term.i(maker.number());
            case 2: return Term.delay(Term.v(1));
            default: return Term.fn(below(32));
        }
    }

    private Term wildScript() {
        return Term.lams(2 + below(2), wild(3 + below(6), 2));
    }

    private Term wild(int fuel, int bound) {
        if (fuel <= 0) {
            switch (below(8)) {
                case 0: return Term.i(maker.number());
                case 1: return new Term(8, 0, maker.bytes(), List.of());
                case 2: return Term.t(below(2));
                case 3: return Term.empty();
                case 4: return Term.fn(below(32));
                default: return Term.v(1 + below(bound));
            }
        }
        switch (below(6)) {
            case 0: return Term.lam(wild(fuel - 1, bound + 1));
            case 1: return Term.force(below(3) == 0 ? wild(fuel - 1, bound) : Term.delay(wild(fuel - 1, bound)));
            case 2: return Term.app(Term.lam(wild(fuel - 1, bound + 1)), wild(fuel - 1, bound));
            case 3: return Term.fn(below(32), wild(fuel - 1, bound));
            case 4: return Term.fn(below(32), wild(fuel - 1, bound), wild(fuel - 2, bound));
            default: return Term.app(wild(fuel - 1, bound), wild(fuel - 1, bound));
        }
    }
}
