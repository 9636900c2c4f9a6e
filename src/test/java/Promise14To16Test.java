/** Promises 14, 15, 16: latestOf, scriptOf, lookAt. */
public final class Promise14To16Test {
    private static final Term ACCEPTS = Term.lams(2, Term.t(1));
    private static final Term FAILS = Term.lams(2, Term.app(Term.error(), Term.ss(64)));
    private static final int[] NO_WHICH = {Integer.MIN_VALUE, -1, 8, 9, 11, 12, Integer.MAX_VALUE};

    public static void main(String[] args) {
        Edge.of("NONE for any other which, or without one.", Promise14To16Test::noLatest);
        Edge.of("1: the place of the fault (VERDICTS 1 .. 5, else NONE)", Promise14To16Test::places);
        Edge.of("2: how many runs of SCRIPTS there were (also the one that did not accept)", Promise14To16Test::runs);
        Edge.of("3: the machine's answer (0, or 1 .. 6), 4: STEPS, 5: MEMORY it cost, 6: the kind of its VALUE (NONE if it"
                + " failed) (3 to 6: NONE if none ran), 7: bytes of the TAPE.", Promise14To16Test::lastRun);
        Edge.of("Of the latest transaction that was submitted", Promise14To16Test::latestAlone);
        Edge.of("what 0: its NODES, 1: its DEPTH, 2: its bytes, 3: how often it has run.", Promise14To16Test::scripts);
        Edge.of("NONE if there is none such, or no such what.", Promise14To16Test::noScripts);
        Edge.of("which 0: the POT, 1: HEIGHT, 2: OUTPUTS made, 3: LIVE ones, 4: how many blocks can be undone, 5: SCRIPTS, 6:"
                + " bytes of the TAPE, 7: transactions APPLIED, 8: TAKEN (7, 8 as far as they are not undone), 9: submitted in"
                + " all, 10: STEPS of all runs.", Promise14To16Test::looks);
        Edge.of("NONE for any other which.", Promise14To16Test::noLooks);
        Check.end();
    }

    private static Bench bench() {
        Bench bench = new Bench(2).endow(3, 1, 10000);
        bench.register(ACCEPTS);
        bench.register(FAILS);
        return bench;
    }

    private static void noLatest() {
        Bench bench = bench();
        for (int which = 0; which < 8; which++) {
            Check.due("latestOf(" + which + ") without one", bench.x.latestOf(which), -1);
        }
        bench.x.closeBlock();
        bench.x.undoBlocks(1);
        bench.give(1, 2);
        bench.x.registerScript();
        for (int which = 0; which < 8; which++) {
            Check.due("latestOf(" + which + ") without one", bench.x.latestOf(which), -1);
        }
        for (int which : NO_WHICH) {
            Refused.due("latestOf(" + which + ")", Promise14To16Test::bench, some -> some.x.latestOf(which), -1);
            Refused.due("latestOf(" + which + ") behind one", Promise14To16Test::accepted, some -> some.x.latestOf(which), -1);
        }
    }

    private static void places() {
        byte[][] rows = {{}, {(byte) 0x82, 0}, {(byte) 0x81, 0x18, 1}, {0, 0}, {5}, Data.b(0x82, 0, 0x60).bytes(),
            Data.deep(13).encode(), Data.wide(201).encode()};
        int[][] wants = {{1, 0}, {1, 2}, {2, 1}, {6, -1}, {7, -1}, {3, 2}, {4, 12}, {5, 201}};
        Bench bench = bench();
        for (int k = 0; k < rows.length; k++) {
            bench.submit(rows[k]);
            bench.dueLatest("fault " + wants[k][0], wants[k][0], wants[k][1], 0, -1, -1, -1, -1, rows[k].length);
        }
        bench.due("no INPUT", new Tx().in(9).fee(100), 8);
        bench.dueLatest("8", 8, -1, 0, -1, -1, -1, -1);
        bench.due("APPLIED", new Tx().in(0).pay(1, 9000).fee(1000).sign(1), 0);
        bench.dueLatest("0", 0, -1, 0, -1, -1, -1, -1);
    }

    private static Tx minting(int... policies) {
        Tx tx = new Tx().in(0).back(1).fee(100).sign(1);
        long[] value = new long[3 + 3 * policies.length];
        value[2] = 9900;
        for (int k = 0; k < policies.length; k++) {
            tx.mint(policies[k], 0, 5).redeem(policies[k], Data.i(0));
            value[3 * k + 3] = policies[k];
            value[3 * k + 5] = 5;
        }
        return tx.pay(Tx.owner(1), Tx.value(value), Data.i(0));
    }

    private static Bench accepted() {
        Bench bench = bench();
        bench.due("accepted", minting(1), 0);
        return bench;
    }

    private static Bench notAccepted() {
        Bench bench = bench();
        bench.due("not accepted", minting(1, 2), 20);
        return bench;
    }

    private static void runs() {
        accepted().dueLatest("one run", 0, -1, 1);
        notAccepted().dueLatest("two runs, of which one did not accept", 20, -1, 2);
        Bench bench = bench();
        bench.due("the first does not accept", minting(2), 20);
        bench.dueLatest("one run, which did not accept", 20, -1, 1);
        bench.due("refused before", new Tx().in(0).back(2).fee(100).mint(1, 0, 5).redeem(1, Data.i(0)).sign(1)
                .pay(1, 9900), 11);
        bench.dueLatest("none", 11, -1, 0, -1, -1, -1, -1);
        bench.due("without scripts", new Tx().in(0).pay(1, 9900).fee(100).sign(1), 0);
        bench.dueLatest("none", 0, -1, 0, -1, -1, -1, -1);
    }

    private static void lastRun() {
        accepted().dueLatest("accepted", 0, -1, 1, 0, 7, 4, 2, minting(1).encode().length);
        // The last of the two: APPLY of ERROR.
        notAccepted().dueLatest("failed", 20, -1, 2, 1, 8, 4, -1, minting(1, 2).encode().length);
        Term[] bodies = {Term.error(), Term.force(Term.unit()), Term.fn(12, Term.s(), Term.i(0))};
        for (int k = 0; k < bodies.length; k++) {
            Bench bench = Lab.run(bodies[k], Data.i(0));
            Check.due("the machine's answer", bench.x.latestOf(3), k + 1);
            Check.due("no VALUE", bench.x.latestOf(6), -1);
        }
    }

    private static void latestAlone() {
        Bench bench = notAccepted();
        int bytes = minting(1, 2).encode().length;
        bench.give(1, 2, 3);
        bench.x.wipeTape();
        bench.x.registerScript();
        bench.x.closeBlock();
        bench.x.undoBlocks(5);
        bench.x.undoBlocks(1);
        bench.dueLatest("other calls do not count", 20, -1, 2, 1, 8, 4, -1, bytes);
        Tx tx = new Tx().in(2).pay(1, 9000).fee(1000).sign(1);
        bench.due("without a run", tx, 0);
        bench.dueLatest("nothing of the one before", 0, -1, 0, -1, -1, -1, -1, tx.encode().length);
    }

    private static void dueScripts(Bench bench, int accepts, int fails) {
        int[][] wants = {{3, 3, ACCEPTS.encode().length, accepts}, {5, 4, FAILS.encode().length, fails}};
        for (int script = 0; script < 2; script++) {
            for (int what = 0; what < 4; what++) {
                Check.due("scriptOf(" + script + ", " + what + ")", bench.x.scriptOf(script, what), wants[script][what]);
            }
        }
    }

    private static void scripts() {
        dueScripts(bench(), 0, 0);
        dueScripts(accepted(), 1, 0);
        Bench bench = notAccepted();
        dueScripts(bench, 1, 1);
        bench.x.undoBlocks(0);
        dueScripts(bench, 1, 1);
        bench.due("once more", minting(1, 2), 20);
        dueScripts(bench, 2, 2);
        // 500 calls to give its bytes: a BYTES of 64 each, 60 of them.
        Term large = broad(60);
        Check.due("bytes", large.encode().length, 60 * 66 + 59);
        bench = new Bench(1);
        Check.due("registerScript()", bench.register(large), 0);
        Check.due("its NODES", bench.x.scriptOf(0, 0), 119);
        Check.due("its DEPTH", bench.x.scriptOf(0, 1), large.depth());
        Check.due("its bytes", bench.x.scriptOf(0, 2), large.encode().length);
    }

    /** So many BYTES, in APPLYS. */
    private static Term broad(int many) {
        return many == 1 ? Term.ss(64) : Term.app(broad(many / 2), broad(many - many / 2));
    }

    private static void noScripts() {
        for (int what : new int[] {Integer.MIN_VALUE, -1, 4, 5, Integer.MAX_VALUE}) {
            for (int script = 0; script < 2; script++) {
                int one = script;
                Refused.due("scriptOf(" + script + ", " + what + ")", Promise14To16Test::accepted,
                        bench -> bench.x.scriptOf(one, what), -1);
            }
        }
        for (int script : new int[] {Integer.MIN_VALUE, -1, 2, 3, 31, 32, 33, 256, Integer.MAX_VALUE}) {
            for (int what = -1; what < 5; what++) {
                int one = what;
                Refused.due("scriptOf(" + script + ", " + what + ")", Promise14To16Test::accepted,
                        bench -> bench.x.scriptOf(script, one), -1);
            }
        }
    }

    private static void dueLooks(String what, Bench bench, long... wants) {
        for (int which = 0; which < wants.length; which++) {
            bench.dueLook(what, which, wants[which]);
        }
    }

    private static void looks() {
        Bench bench = bench();
        dueLooks("endowed", bench, 0, 0, 3, 3, 0, 2, 0, 0, 0, 0, 0);
        bench.due("accepted", minting(1), 0);
        dueLooks("APPLIED", bench, 100, 0, 4, 3, 0, 2, 0, 1, 0, 1, 7);
        bench.x.closeBlock();
        bench.due("not accepted", new Tx().in(2).back(1).fee(100).sign(1).mint(2, 0, 5).redeem(2, Data.i(0))
                .pay(Tx.owner(1), Tx.value(0, 0, 9900, 2, 0, 5), Data.i(0)), 20);
        bench.give(1, 2, 3);
        dueLooks("TAKEN", bench, 10100, 1, 4, 2, 1, 2, 3, 1, 1, 2, 15);
        Check.due("submitTape()", bench.x.submitTape(), 6);
        dueLooks("refused", bench, 10100, 1, 4, 2, 1, 2, 0, 1, 1, 3, 15);
        bench.x.undoBlocks(0);
        dueLooks("the OPEN one undone", bench, 100, 1, 4, 3, 1, 2, 0, 1, 0, 3, 15);
        bench.x.undoBlocks(1);
        dueLooks("all undone", bench, 0, 0, 3, 3, 0, 2, 0, 0, 0, 3, 15);
    }

    private static void noLooks() {
        for (int which : new int[] {Integer.MIN_VALUE, -1, 11, 12, 256, Integer.MAX_VALUE}) {
            Refused.due("lookAt(" + which + ")", Promise14To16Test::accepted, bench -> bench.x.lookAt(which), -1);
        }
    }
}
