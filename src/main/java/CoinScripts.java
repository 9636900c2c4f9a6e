import java.util.Arrays;

/** A ledger of outputs of many kinds of coins, whose transactions and scripts come as bytes on a tape. */
public final class CoinScripts {
    public static final int NONE = -1;

    private static final int TAPE_ROOM = 4096;
    private static final int MOST_SCRIPTS = 32;
    private static final int MOST_SCRIPT_NODES = 190;
    private static final int OWNERS = 256;
    private static final int DEEPEST_UNDO = 64;
    private static final long MOST_COINS = 1L << 62;
    private static final long LEAST_BASE = 2;

    private static final int BYTES_LEFT = 6;
    private static final int NO_TRANSACTION = 7;
    private static final int NOT_ACCEPTED = 20;

    private static final int VERDICT = 0;
    private static final int PLACE = 1;
    private static final int RUNS = 2;
    private static final int ANSWER = 3;
    private static final int STEPS = 4;
    private static final int MEMORY = 5;
    private static final int KIND = 6;
    private static final int LENGTH = 7;

    private final Nodes nodes;
    private final DataReader dataReader;
    private final TermReader termReader;
    private final Transaction transaction;
    private final Ledger ledger;
    private final Machine machine;
    private final Term[] scripts;
    private final int[] latest;
    private int scriptCount;
    private int tapeLength;
    private boolean endowingIsOver;
    private int submitted;
    private long allSteps;

    public CoinScripts(int depth) {
        nodes = new Nodes();
        dataReader = new DataReader(nodes);
        termReader = new TermReader();
        transaction = new Transaction(nodes, dataReader.starts);
        ledger = new Ledger(Math.max(1, Math.min(depth, DEEPEST_UNDO)));
        machine = new Machine(nodes);
        scripts = new Term[MOST_SCRIPTS];
        latest = new int[LENGTH + 1];
        Arrays.fill(latest, NONE);
    }

    public boolean giveTape(long v, int n) {
        if (n < 1 || n > 8 || tapeLength > TAPE_ROOM - n) {
            return false;
        }
        for (int k = n - 1; k >= 0; k--) {
            nodes.bytes[tapeLength] = (byte) (v >> (8 * k));
            tapeLength++;
        }
        return true;
    }

    public void wipeTape() {
        tapeLength = 0;
    }

    public int endowOwner(int owner, long amount) {
        if (endowingIsOver || owner < 0 || owner >= OWNERS) {
            return NONE;
        }
        return ledger.endow(owner, amount);
    }

    public int registerScript() {
        int length = tapeLength;
        tapeLength = 0;
        int fault = termReader.readTerm(nodes.bytes, length);
        if (fault != 0) {
            return -fault;
        }
        if (termReader.at < length) {
            return -7;
        }
        if (termReader.count > MOST_SCRIPT_NODES) {
            return -8;
        }
        if (scriptCount >= MOST_SCRIPTS) {
            return -9;
        }
        scripts[scriptCount] = termReader.makeTerm();
        scriptCount++;
        return scriptCount - 1;
    }

    public int submitTape() {
        endowingIsOver = true;
        submitted++;
        Arrays.fill(latest, NONE);
        latest[RUNS] = 0;
        latest[LENGTH] = tapeLength;
        int verdict = readTape();
        if (verdict == 0) {
            verdict = transaction.take(scriptCount) ? ledger.judge(transaction, tapeLength) : NO_TRANSACTION;
        }
        if (verdict == 0 && ledger.needsCollateral(transaction)) {
            verdict = runScripts();
        }
        if (verdict == 0) {
            ledger.applyAll(transaction, nodes.bytes);
        } else if (verdict == NOT_ACCEPTED) {
            ledger.takeCollateral(transaction);
        }
        latest[VERDICT] = verdict;
        tapeLength = 0;
        return verdict;
    }

    public int closeBlock() {
        endowingIsOver = true;
        return ledger.close();
    }

    public int undoBlocks(int n) {
        endowingIsOver = true;
        return ledger.undo(n);
    }

    public int outputOf(int number, int what) {
        Output output = ledger.outputAt(number);
        if (output == null) {
            return NONE;
        }
        switch (what) {
            case 0: return output.address;
            case 1: return output.isLive() ? 1 : 0;
            case 2: return output.madeAt;
            case 3: return output.spentAt;
            case 4: return output.coins.size;
            case 5: return output.datum.length;
            default: return NONE;
        }
    }

    public long coinOf(int number, int i, int what) throws IndexOutOfBoundsException {
        Output output = ledger.outputAt(number);
        if (output == null || i < 0 || i >= output.coins.size || what < 0 || what > 2) {
            throw new IndexOutOfBoundsException();
        }
        if (what == 0) {
            return output.coins.policies[i];
        }
        return what == 1 ? output.coins.names[i] : output.coins.amounts[i];
    }

    public int datumOf(int number, int k) {
        Output output = ledger.outputAt(number);
        if (output == null || k < 0 || k >= output.datum.length) {
            return NONE;
        }
        return output.datum[k] & 255;
    }

    public long totalOf(int policy, long name) {
        long live = ledger.liveOf(policy, name);
        return policy == 0 && name == 0 ? live + ledger.pot : live;
    }

    public int ownedBy(int address, int i) {
        return ledger.ownedAt(address, i);
    }

    public int latestOf(int which) {
        return which < 0 || which > LENGTH ? NONE : latest[which];
    }

    public int scriptOf(int script, int what) {
        Term term = scriptAt(script);
        if (term == null) {
            return NONE;
        }
        switch (what) {
            case 0: return term.count;
            case 1: return term.depth;
            case 2: return term.bytes.length;
            case 3: return term.runs;
            default: return NONE;
        }
    }

    public long lookAt(int which) {
        switch (which) {
            case 0: return ledger.pot;
            case 1: return ledger.height;
            case 2: return ledger.made;
            case 3: return ledger.countLive();
            case 4: return ledger.undoable;
            case 5: return scriptCount;
            case 6: return tapeLength;
            case 7: return ledger.applied;
            case 8: return ledger.taken;
            case 9: return submitted;
            case 10: return allSteps;
            default: return NONE;
        }
    }

    /** The VERDICT up to 6. */
    private int readTape() {
        nodes.top = 0;
        int fault = dataReader.readData(0, tapeLength);
        if (fault != 0) {
            latest[PLACE] = dataReader.place;
            return fault;
        }
        return dataReader.at < tapeLength ? BYTES_LEFT : 0;
    }

    /** The VERDICT of PHASE TWO: INPUTS run first, then POLICIES. */
    private int runScripts() {
        transaction.writeContext(ledger.spent);
        int behindContext = nodes.top;
        int inputs = transaction.inputCount();
        for (int i = 0; i < inputs + transaction.policyCount; i++) {
            Term term = i < inputs ? scriptOfInput(i) : scriptAt(transaction.policies[i - inputs] - 1);
            if (term != null) {
                // What an earlier run made is of no use any more.
                nodes.top = behindContext;
                int datum = i < inputs ? readDatum(transaction.inputAt(i)) : NONE;
                transaction.pointContext(i);
                machine.load(term, datum, transaction.redeemerOf(i), transaction.context);
                machine.run();
                tellRun(term);
                if (!machine.hasAccepted()) {
                    return NOT_ACCEPTED;
                }
            }
        }
        return 0;
    }

    private Term scriptAt(int script) {
        return script < 0 || script >= scriptCount ? null : scripts[script];
    }

    /** Null if the INPUT is of an OWNER. */
    private Term scriptOfInput(int i) {
        Output output = ledger.outputAt(transaction.inputAt(i));
        return output == null ? null : scriptAt(output.address - OWNERS);
    }

    /** The NODE at which the DATUM of an OUTPUT lies, which is read for this. */
    private int readDatum(long number) {
        int node = nodes.top;
        Output output = ledger.outputAt(number);
        if (output != null) {
            System.arraycopy(output.datum, 0, nodes.bytes, Nodes.DATUM_AT, output.datum.length);
            dataReader.readData(Nodes.DATUM_AT, Nodes.DATUM_AT + output.datum.length);
        }
        return node;
    }

    private void tellRun(Term term) {
        term.runs++;
        allSteps += machine.steps;
        latest[RUNS]++;
        latest[ANSWER] = machine.answer;
        latest[STEPS] = machine.steps;
        latest[MEMORY] = machine.memory;
        latest[KIND] = machine.kindOfValue();
    }

    /** DATA: their NODES in rows, in the order of their numbers; the bytes of BYTES lie in one pool. */
    static final class Nodes {
        static final int INTEGER = 0;
        static final int BYTES = 2;
        static final int LIST = 4;
        static final int MAP = 5;
        static final int CONSTRUCTOR = 6;
        static final int MOST = 200;
        static final int DEEPEST = 12;
        static final int LONGEST = 64;
        static final int LONGEST_DATUM = 128;

        // The pool begins with the TAPE, so that DATA that are read need no copy of their bytes.
        static final int DATUM_AT = TAPE_ROOM;
        static final int SCRIPT_AT = DATUM_AT + LONGEST_DATUM;
        static final int RESULTS_AT = SCRIPT_AT + TAPE_ROOM;

        // The TRANSACTION, the DATUM, the CONTEXT, and what a run pays for; its last result is made before it is paid.
        private static final int ROOM = 4 * MOST + Machine.MOST_MEMORY + 1;
        private static final int BYTES_ROOM = RESULTS_AT + 8 * Machine.MOST_MEMORY + LONGEST;

        final byte[] kinds = new byte[ROOM];
        /** What is within at once (key and value of a pair are two), or how many bytes. */
        final int[] counts = new int[ROOM];
        /** All NODES of it. */
        final int[] spans = new int[ROOM];
        final int[] places = new int[ROOM];
        final long[] numbers = new long[ROOM];
        final byte[] bytes = new byte[BYTES_ROOM];
        private final int[] ends = new int[DEEPEST];
        int top;
        int bytesTop;

        int add(int kind, int count, long number, int place) {
            int node = top < ROOM ? top : ROOM - 1;
            kinds[node] = (byte) kind;
            counts[node] = count;
            spans[node] = 1;
            numbers[node] = number;
            places[node] = place;
            top = node + 1;
            return node;
        }

        int addInteger(long number) {
            return add(INTEGER, 0, number, 0);
        }

        /** All that was added behind a NODE is within it. */
        void enclose(int node) {
            spans[node] = top - node;
        }

        int behind(int node) {
            return node + spans[node];
        }

        boolean isInteger(int node) {
            return kinds[node] == INTEGER;
        }

        boolean isIntegerWithin(int node, long least, long most) {
            return kinds[node] == INTEGER && numbers[node] >= least && numbers[node] <= most;
        }

        boolean isListOf(int node, int least, int most) {
            return kinds[node] == LIST && counts[node] >= least && counts[node] <= most;
        }

        boolean isConstructorOf(int node, long number, int fields) {
            return kinds[node] == CONSTRUCTOR && numbers[node] == number && counts[node] == fields;
        }

        /** Adds NODES that lie one behind the other once more. */
        int copyRow(int from, int many) {
            int node = top;
            int count = Math.min(many, ROOM - node);
            System.arraycopy(kinds, from, kinds, node, count);
            System.arraycopy(counts, from, counts, node, count);
            System.arraycopy(spans, from, spans, node, count);
            System.arraycopy(places, from, places, node, count);
            System.arraycopy(numbers, from, numbers, node, count);
            top = node + count;
            return node;
        }

        int copyAs(int from, int kind, long number) {
            int node = copyRow(from, spans[from]);
            kinds[node] = (byte) kind;
            numbers[node] = number;
            return node;
        }

        int bytesWithin(int node) {
            int sum = 0;
            int end = behind(node);
            for (int i = node; i < end; i++) {
                if (kinds[i] == BYTES) {
                    sum += counts[i];
                }
            }
            return sum;
        }

        int depthOf(int node) {
            int level = 0;
            int deepest = 0;
            int end = behind(node);
            for (int i = node; i < end; i++) {
                while (level > 0 && i >= ends[level - 1]) {
                    level--;
                }
                if (level < DEEPEST) {
                    ends[level] = behind(i);
                    level++;
                }
                deepest = level > deepest ? level : deepest;
            }
            return deepest;
        }

        // Kinds and counts in the order of NODES tell the whole form, so no nesting has to be followed.
        boolean areSame(int one, int other) {
            if (spans[one] != spans[other]) {
                return false;
            }
            for (int i = 0; i < spans[one]; i++) {
                int a = one + i;
                int b = other + i;
                if (kinds[a] != kinds[b] || counts[a] != counts[b] || numbers[a] != numbers[b]) {
                    return false;
                }
                if (kinds[a] == BYTES && compareBytes(places[a], counts[a], places[b], counts[b]) != 0) {
                    return false;
                }
            }
            return true;
        }

        int compareBytes(int place, int count, int otherPlace, int otherCount) {
            int common = Math.min(count, otherCount);
            for (int i = 0; i < common; i++) {
                int difference = (bytes[place + i] & 255) - (bytes[otherPlace + i] & 255);
                if (difference != 0) {
                    return difference;
                }
            }
            return count - otherCount;
        }

        /** Adds bytes of the pool to its end once more. */
        void copyBytes(int place, int count) {
            int many = Math.min(count, BYTES_ROOM - bytesTop);
            System.arraycopy(bytes, place, bytes, bytesTop, many);
            bytesTop += many;
        }
    }

    /** READING DATA. */
    static final class DataReader {
        private static final int ENDS = 1;
        private static final int LONG_WINDED = 2;
        private static final int WRONG_HEAD = 3;
        private static final int TOO_DEEP = 4;
        private static final int TOO_MANY = 5;

        private static final int NEGATIVE = 1;

        private final Nodes nodes;
        /** The first byte of each NODE that was read. */
        final int[] starts = new int[Nodes.MOST];
        private final int[] open = new int[Nodes.DEEPEST];
        private final int[] left = new int[Nodes.DEEPEST];
        private int level;
        private int seen;
        private int end;
        private int kind;
        private long number;
        int at;
        int place;

        DataReader(Nodes nodes) {
            this.nodes = nodes;
        }

        /** The fault, or 0; the NODES come behind those that there are. */
        int readData(int from, int behind) {
            at = from;
            end = behind;
            place = NONE;
            level = 0;
            seen = 0;
            for (int i = 0; i <= Nodes.MOST; i++) {
                int fault = readNode();
                if (fault != 0) {
                    return fault;
                }
                closeFull();
                if (level == 0) {
                    return 0;
                }
            }
            return TOO_MANY;
        }

        private int readNode() {
            int start = at;
            int fault = readHead(false);
            if (fault == 0) {
                fault = findFaultOfNode(start);
            }
            if (fault != 0) {
                return fault;
            }
            starts[seen] = start;
            seen++;
            switch (kind) {
                case Nodes.INTEGER:
                    nodes.addInteger(number);
                    return 0;
                case NEGATIVE:
                    nodes.addInteger(-1 - number);
                    return 0;
                case Nodes.BYTES:
                    return readBytes();
                case Nodes.CONSTRUCTOR:
                    return readConstructor();
                default:
                    openNode(kind, 0);
                    return 0;
            }
        }

        /** A HEAD: its kind and number, and the faults of these. */
        private int readHead(boolean followsConstructor) {
            int start = at;
            if (at >= end) {
                return faultAt(ENDS, end);
            }
            int first = nodes.bytes[at] & 255;
            at++;
            kind = first >> 5;
            int low = first & 31;
            if (low > 27 || kind == 3 || kind == 7 || followsConstructor && kind != Nodes.LIST) {
                return faultAt(WRONG_HEAD, start);
            }
            number = low;
            if (low >= 24) {
                int many = 1 << (low - 24);
                if (end - at < many) {
                    return faultAt(ENDS, end);
                }
                readNumber(many);
                if (isLongWinded(many)) {
                    return faultAt(LONG_WINDED, start);
                }
            }
            return isNumberOfKind() ? 0 : faultAt(WRONG_HEAD, start);
        }

        private void readNumber(int many) {
            number = 0;
            for (int k = 0; k < many; k++) {
                number = number << 8 | nodes.bytes[at] & 255;
                at++;
            }
        }

        private boolean isLongWinded(int many) {
            return many == 1 ? number < 24 : number >>> (4 * many) == 0;
        }

        // A number below 0 here is one from 2^63 on.
        private boolean isNumberOfKind() {
            switch (kind) {
                case Nodes.INTEGER:
                case NEGATIVE:
                    return number >= 0;
                case Nodes.BYTES:
                    return number >= 0 && number <= Nodes.LONGEST;
                case Nodes.CONSTRUCTOR:
                    return number >= 121 && number <= 127 || number >= 1280 && number <= 1400;
                default:
                    return true;
            }
        }

        private int findFaultOfNode(int start) {
            if (level >= Nodes.DEEPEST) {
                return faultAt(TOO_DEEP, start);
            }
            return seen >= Nodes.MOST ? faultAt(TOO_MANY, start) : 0;
        }

        private int readBytes() {
            int count = (int) number;
            if (end - at < count) {
                return faultAt(ENDS, end);
            }
            nodes.add(Nodes.BYTES, count, 0, at);
            at += count;
            return 0;
        }

        private int readConstructor() {
            long which = number <= 127 ? number - 121 : number - 1273;
            int fault = readHead(true);
            if (fault == 0) {
                openNode(Nodes.CONSTRUCTOR, which);
            }
            return fault;
        }

        private void openNode(int nodeKind, long which) {
            // More than can be there is as good as any larger number: reading ends with a fault before.
            boolean isMore = number < 0 || number > Nodes.MOST;
            int count = isMore ? Nodes.MOST + 1 : (int) number;
            if (nodeKind == Nodes.MAP) {
                count *= 2;
            }
            open[level] = nodes.add(nodeKind, count, which, 0);
            left[level] = count;
            level++;
        }

        /** Closes what has all that is within it, and counts what was closed where it lies. */
        private void closeFull() {
            boolean isOpened = level > 0 && open[level - 1] == nodes.top - 1;
            if (!isOpened && level > 0) {
                left[level - 1]--;
            }
            while (level > 0 && left[level - 1] == 0) {
                level--;
                nodes.enclose(open[level]);
                if (level > 0) {
                    left[level - 1]--;
                }
            }
        }

        private int faultAt(int fault, int where) {
            place = where;
            return fault;
        }
    }

    /** A SCRIPT. */
    static final class Term {
        static final int VARIABLE = 0;
        static final int LAMBDA = 1;
        static final int APPLY = 2;
        static final int DELAY = 3;
        static final int FORCE = 4;
        static final int ERROR = 5;
        static final int BUILTIN = 6;
        static final int INTEGER = 7;
        static final int BYTES = 8;
        static final int TRUTH = 9;
        static final int UNIT = 10;
        static final int EMPTY = 11;
        static final int MOST = 200;
        static final int DEEPEST = 60;

        final byte[] kinds;
        /** Of BYTES how many they are. */
        final long[] numbers;
        /** Of APPLY the NODE of its argument, of BYTES their place. */
        final int[] seconds;
        final byte[] bytes;
        final int count;
        final int depth;
        int runs;

        Term(byte[] kinds, long[] numbers, int[] seconds, byte[] bytes, int depth) {
            this.kinds = kinds;
            this.numbers = numbers;
            this.seconds = seconds;
            this.bytes = bytes;
            this.count = kinds.length;
            this.depth = depth;
        }
    }

    /** READING a TERM. */
    static final class TermReader {
        private static final int ENDS = 1;
        private static final int LONG_WINDED = 2;
        private static final int WRONG = 3;
        private static final int UNBOUND = 4;
        private static final int TOO_DEEP = 5;
        private static final int TOO_MANY = 6;
        private static final long MOST_UNSIGNED = 2147483647;

        private final byte[] kinds = new byte[Term.MOST];
        private final long[] numbers = new long[Term.MOST];
        private final int[] seconds = new int[Term.MOST];
        // What is still to be read: the next one lies on top. An APPLY leaves its argument there.
        private final int[] depths = new int[Term.DEEPEST + 4];
        private final int[] lambdas = new int[Term.DEEPEST + 4];
        private final int[] owners = new int[Term.DEEPEST + 4];
        private int waiting;
        private byte[] tape;
        private int end;
        private int deepest;
        private long number;
        int at;
        int count;

        /** The fault, or 0. */
        int readTerm(byte[] from, int length) {
            tape = from;
            end = length;
            at = 0;
            count = 0;
            deepest = 0;
            waiting = 0;
            expect(1, 0, NONE);
            for (int i = 0; i <= Term.MOST && waiting > 0; i++) {
                int fault = readNode();
                if (fault != 0) {
                    return fault;
                }
            }
            return 0;
        }

        Term makeTerm() {
            return new Term(Arrays.copyOf(kinds, count), Arrays.copyOf(numbers, count),
                    Arrays.copyOf(seconds, count), Arrays.copyOf(tape, at), deepest);
        }

        private void expect(int depth, int bound, int owner) {
            if (waiting < depths.length) {
                depths[waiting] = depth;
                lambdas[waiting] = bound;
                owners[waiting] = owner;
                waiting++;
            }
        }

        private int readNode() {
            waiting--;
            int depth = depths[waiting];
            int bound = lambdas[waiting];
            int owner = owners[waiting];
            if (at >= end) {
                return ENDS;
            }
            int kind = tape[at] & 255;
            at++;
            if (kind > Term.EMPTY) {
                return WRONG;
            }
            if (depth > Term.DEEPEST) {
                return TOO_DEEP;
            }
            if (count >= Term.MOST) {
                return TOO_MANY;
            }
            int node = count;
            count++;
            deepest = Math.max(deepest, depth);
            if (owner != NONE) {
                seconds[owner] = node;
            }
            kinds[node] = (byte) kind;
            seconds[node] = 0;
            number = 0;
            int fault = readNumber(kind, bound, node);
            numbers[node] = number;
            expectParts(kind, depth, bound, node);
            return fault;
        }

        private void expectParts(int kind, int depth, int bound, int node) {
            if (kind == Term.LAMBDA) {
                expect(depth + 1, bound + 1, NONE);
            } else if (kind == Term.DELAY || kind == Term.FORCE) {
                expect(depth + 1, bound, NONE);
            } else if (kind == Term.APPLY) {
                expect(depth + 1, bound, node);
                expect(depth + 1, bound, NONE);
            }
        }

        private int readNumber(int kind, int bound, int node) {
            switch (kind) {
                case Term.VARIABLE:
                    return readVariable(bound);
                case Term.BUILTIN:
                    return readByteUpTo(31);
                case Term.TRUTH:
                    return readByteUpTo(1);
                case Term.INTEGER:
                    return readSigned();
                case Term.BYTES:
                    return readBytes(node);
                default:
                    return 0;
            }
        }

        private int readVariable(int bound) {
            int fault = readUnsigned();
            if (fault != 0) {
                return fault;
            }
            if (number < 1 || number > 200) {
                return WRONG;
            }
            return number > bound ? UNBOUND : 0;
        }

        private int readByteUpTo(int most) {
            if (at >= end) {
                return ENDS;
            }
            number = tape[at] & 255;
            at++;
            return number > most ? WRONG : 0;
        }

        private int readBytes(int node) {
            int fault = readByteUpTo(Nodes.LONGEST);
            if (fault != 0) {
                return fault;
            }
            seconds[node] = at;
            if (end - at < number) {
                return ENDS;
            }
            at += (int) number;
            return 0;
        }

        /** U. */
        private int readUnsigned() {
            for (int k = 0; k < 5; k++) {
                if (at >= end) {
                    return ENDS;
                }
                int group = tape[at] & 255;
                at++;
                number |= (long) (group & 127) << (7 * k);
                if (group < 128) {
                    boolean isLongWinded = k > 0 && group == 0;
                    return isLongWinded || number > MOST_UNSIGNED ? LONG_WINDED : 0;
                }
            }
            return LONG_WINDED;
        }

        /** S. */
        private int readSigned() {
            int before = 0;
            for (int k = 0; k < 10; k++) {
                if (at >= end) {
                    return ENDS;
                }
                int group = tape[at] & 255;
                at++;
                number |= (long) (group & 127) << (7 * k);
                if (group < 128) {
                    if (k < 9 && (group & 64) != 0) {
                        number |= -1L << (7 * (k + 1));
                    }
                    return isWellSigned(group, before, k) ? 0 : LONG_WINDED;
                }
                before = group;
            }
            return LONG_WINDED;
        }

        private static boolean isWellSigned(int last, int before, int k) {
            if (k == 0) {
                return true;
            }
            if (k == 9 && last != 0 && last != 127) {
                return false;
            }
            boolean repeatsSign = last == 0 && (before & 64) == 0 || last == 127 && (before & 64) != 0;
            return !repeatsSign;
        }
    }

    /** AMOUNTS of KINDS, in the order of the KINDS. */
    static final class Coins {
        private static final long SIGN = 1L << 63;

        final int[] policies;
        final long[] names;
        final long[] amounts;
        int size;

        Coins(int room) {
            policies = new int[room];
            names = new long[room];
            amounts = new long[room];
        }

        /** The first place whose KIND is not ahead of this one. */
        private int placeOf(int policy, long name) {
            int place = 0;
            while (place < size && isAhead(policies[place], names[place], policy, name)) {
                place++;
            }
            return place;
        }

        static boolean isAhead(int policy, long name, int otherPolicy, long otherName) {
            // With their highest bits turned, numbers without a sign lie as those with one do.
            return policy != otherPolicy ? policy < otherPolicy : (name ^ SIGN) < (otherName ^ SIGN);
        }

        private boolean isAt(int place, int policy, long name) {
            return place < size && policies[place] == policy && names[place] == name;
        }

        long amountOf(int policy, long name) {
            int place = placeOf(policy, name);
            return isAt(place, policy, name) ? amounts[place] : 0;
        }

        /** False if there would be more of a KIND than there can be. */
        boolean add(int policy, long name, long amount) {
            int place = placeOf(policy, name);
            if (isAt(place, policy, name)) {
                if (amounts[place] > MOST_COINS - amount) {
                    return false;
                }
                amounts[place] += amount;
                return true;
            }
            if (size >= amounts.length) {
                return false;
            }
            System.arraycopy(policies, place, policies, place + 1, size - place);
            System.arraycopy(names, place, names, place + 1, size - place);
            System.arraycopy(amounts, place, amounts, place + 1, size - place);
            policies[place] = policy;
            names[place] = name;
            amounts[place] = amount;
            size++;
            return true;
        }

        boolean addAll(Coins others) {
            for (int i = 0; i < others.size; i++) {
                if (!add(others.policies[i], others.names[i], others.amounts[i])) {
                    return false;
                }
            }
            return true;
        }

        /** False if the KIND is not behind the last one. */
        boolean append(int policy, long name, long amount) {
            if (size >= amounts.length) {
                return false;
            }
            if (size > 0 && !isAhead(policies[size - 1], names[size - 1], policy, name)) {
                return false;
            }
            policies[size] = policy;
            names[size] = name;
            amounts[size] = amount;
            size++;
            return true;
        }

        boolean isBaseAlone() {
            return size == 1 && policies[0] == 0;
        }

        /** One without room that is not used, to be kept. */
        Coins makeCopy() {
            Coins copy = new Coins(size);
            System.arraycopy(policies, 0, copy.policies, 0, size);
            System.arraycopy(names, 0, copy.names, 0, size);
            System.arraycopy(amounts, 0, copy.amounts, 0, size);
            copy.size = size;
            return copy;
        }
    }

    /** An OUTPUT. */
    static final class Output {
        final int address;
        final Coins coins;
        final byte[] datum;
        final int madeAt;
        int spentAt = NONE;

        Output(int address, Coins coins, byte[] datum, int madeAt) {
            this.address = address;
            this.coins = coins;
            this.datum = datum;
            this.madeAt = madeAt;
        }

        boolean isLive() {
            return spentAt == NONE;
        }
    }

    /** The TRANSACTION that was read last; its outermost NODE is 0. */
    static final class Transaction {
        private static final int INPUTS = 0;
        private static final int COLLATERAL = 1;
        private static final int OUTPUTS = 2;
        private static final int FEE = 3;
        private static final int VALIDITY = 4;
        private static final int MINT = 5;
        private static final int REDEEMERS = 6;
        private static final int SIGNERS = 7;
        private static final int FIELDS = 8;
        private static final int MOST = 8;
        private static final int MOST_COLLATERAL = 4;

        private final Nodes nodes;
        private final int[] starts;
        private final int[] fields = new int[FIELDS];
        private final int[] redeemers = new int[MOST];
        final int[] addresses = new int[MOST];
        private final int[] addressNodes = new int[MOST];
        final Coins[] values = new Coins[MOST];
        private final int[] datumStarts = new int[MOST];
        private final int[] datumEnds = new int[MOST];
        final Coins mint = new Coins(MOST);
        final int[] policies = new int[MOST];
        private final int[] policyRedeemers = new int[MOST];
        int policyCount;
        int context;

        Transaction(Nodes nodes, int[] starts) {
            this.nodes = nodes;
            this.starts = starts;
            for (int i = 0; i < MOST; i++) {
                values[i] = new Coins(MOST);
            }
        }

        /** False if it is none. */
        boolean take(int scripts) {
            if (!nodes.isConstructorOf(0, 0, FIELDS)) {
                return false;
            }
            int node = 1;
            for (int i = 0; i < FIELDS; i++) {
                fields[i] = node;
                node = nodes.behind(node);
            }
            return takeInputs() && isCollateral() && takeOutputs(scripts)
                    && nodes.isIntegerWithin(fields[FEE], 0, MOST_COINS) && isValidity()
                    && takeMint(scripts) && takeRedeemers() && areSigners();
        }

        int inputCount() {
            return nodes.counts[fields[INPUTS]];
        }

        long inputAt(int i) {
            return nodes.numbers[redeemers[i] - 1];
        }

        /** Of an INPUT, or behind these of a POLICY. */
        int redeemerOf(int i) {
            return i < inputCount() ? redeemers[i] : policyRedeemers[i - inputCount()];
        }

        int collateralCount() {
            return nodes.counts[fields[COLLATERAL]];
        }

        long collateralAt(int i) {
            return nodes.numbers[fields[COLLATERAL] + 1 + i];
        }

        int outputCount() {
            return nodes.counts[fields[OUTPUTS]];
        }

        byte[] makeDatum(int i, byte[] tape) {
            return Arrays.copyOfRange(tape, datumStarts[i], datumEnds[i]);
        }

        long fee() {
            return nodes.numbers[fields[FEE]];
        }

        boolean isValidAt(int height) {
            int list = fields[VALIDITY];
            return height >= nodes.numbers[list + 1] && height <= nodes.numbers[list + 2];
        }

        boolean hasSigner(int owner) {
            int list = fields[SIGNERS];
            for (int i = 1; i <= nodes.counts[list]; i++) {
                if (nodes.numbers[list + i] == owner) {
                    return true;
                }
            }
            return false;
        }

        private boolean takeInputs() {
            int list = fields[INPUTS];
            if (!nodes.isListOf(list, 1, MOST)) {
                return false;
            }
            int node = list + 1;
            for (int i = 0; i < nodes.counts[list]; i++) {
                if (!nodes.isConstructorOf(node, 0, 2) || !nodes.isInteger(node + 1)) {
                    return false;
                }
                redeemers[i] = node + 2;
                node = nodes.behind(node);
            }
            return true;
        }

        private boolean isCollateral() {
            int list = fields[COLLATERAL];
            return nodes.isListOf(list, 0, MOST_COLLATERAL) && areIntegers(list);
        }

        private boolean areIntegers(int list) {
            // As long as all of them are INTEGERS, each lies just behind the one before.
            for (int i = 1; i <= nodes.counts[list]; i++) {
                if (!nodes.isInteger(list + i)) {
                    return false;
                }
            }
            return true;
        }

        private boolean takeOutputs(int scripts) {
            int list = fields[OUTPUTS];
            if (!nodes.isListOf(list, 0, MOST)) {
                return false;
            }
            int node = list + 1;
            for (int i = 0; i < nodes.counts[list]; i++) {
                if (!nodes.isConstructorOf(node, 0, 3) || !takeOutput(i, node + 1, scripts)) {
                    return false;
                }
                node = nodes.behind(node);
            }
            return true;
        }

        private boolean takeOutput(int i, int address, int scripts) {
            if (!takeAddress(i, address, scripts)) {
                return false;
            }
            int value = nodes.behind(address);
            if (!nodes.isListOf(value, 1, MOST) || !takeCoins(value, values[i], scripts, false)) {
                return false;
            }
            int datum = nodes.behind(value);
            datumStarts[i] = starts[datum];
            // There is always a NODE behind a DATUM: the FEE at the latest.
            datumEnds[i] = starts[nodes.behind(datum)];
            return datumEnds[i] - datumStarts[i] <= Nodes.LONGEST_DATUM;
        }

        private boolean takeAddress(int i, int address, int scripts) {
            addressNodes[i] = address;
            if (nodes.isConstructorOf(address, 0, 1) && nodes.isIntegerWithin(address + 1, 0, OWNERS - 1)) {
                addresses[i] = (int) nodes.numbers[address + 1];
                return true;
            }
            if (nodes.isConstructorOf(address, 1, 1) && nodes.isIntegerWithin(address + 1, 0, scripts - 1)) {
                addresses[i] = OWNERS + (int) nodes.numbers[address + 1];
                return true;
            }
            return false;
        }

        private boolean takeCoins(int list, Coins coins, int scripts, boolean isMint) {
            coins.size = 0;
            int node = list + 1;
            for (int i = 0; i < nodes.counts[list]; i++) {
                if (!nodes.isListOf(node, 3, 3) || !areIntegers(node)) {
                    return false;
                }
                long policy = nodes.numbers[node + 1];
                long name = nodes.numbers[node + 2];
                long amount = nodes.numbers[node + 3];
                if (policy < (isMint ? 1 : 0) || policy > scripts || policy == 0 && name != 0) {
                    return false;
                }
                if (amount < (isMint ? -MOST_COINS : 1) || amount > MOST_COINS || amount == 0) {
                    return false;
                }
                if (!coins.append((int) policy, name, amount)) {
                    return false;
                }
                node = nodes.behind(node);
            }
            return true;
        }

        private boolean isValidity() {
            return nodes.isListOf(fields[VALIDITY], 2, 2) && areIntegers(fields[VALIDITY]);
        }

        private boolean takeMint(int scripts) {
            int list = fields[MINT];
            if (!nodes.isListOf(list, 0, MOST) || !takeCoins(list, mint, scripts, true)) {
                return false;
            }
            policyCount = 0;
            for (int i = 0; i < mint.size; i++) {
                if (policyCount == 0 || policies[policyCount - 1] != mint.policies[i]) {
                    policies[policyCount] = mint.policies[i];
                    policyCount++;
                }
            }
            return true;
        }

        private boolean takeRedeemers() {
            int map = fields[REDEEMERS];
            if (nodes.kinds[map] != Nodes.MAP || nodes.counts[map] != 2 * policyCount) {
                return false;
            }
            int node = map + 1;
            for (int i = 0; i < policyCount; i++) {
                if (!nodes.isIntegerWithin(node, policies[i], policies[i])) {
                    return false;
                }
                policyRedeemers[i] = node + 1;
                node = nodes.behind(node + 1);
            }
            return true;
        }

        private boolean areSigners() {
            int list = fields[SIGNERS];
            if (!nodes.isListOf(list, 0, MOST)) {
                return false;
            }
            long least = 0;
            for (int i = 1; i <= nodes.counts[list]; i++) {
                if (!nodes.isIntegerWithin(list + i, least, OWNERS - 1)) {
                    return false;
                }
                least = nodes.numbers[list + i] + 1;
            }
            return true;
        }

        int countContext(Coins spent) {
            int fixed = 11;
            return fixed + nodes.counts[fields[SIGNERS]] + 4 * (mint.size + spent.size + outputCount());
        }

        void writeContext(Coins spent) {
            context = nodes.add(Nodes.CONSTRUCTOR, 8, 0, 0);
            nodes.addInteger(0);
            nodes.addInteger(0);
            copyField(FEE);
            copyField(VALIDITY);
            copyField(SIGNERS);
            copyField(MINT);
            writeSpent(spent);
            writePaid();
            nodes.enclose(context);
        }

        private void copyField(int field) {
            nodes.copyRow(fields[field], nodes.spans[fields[field]]);
        }

        /** Says for which one the CONTEXT is: INPUTS count first, then POLICIES. */
        void pointContext(int i) {
            boolean isInput = i < inputCount();
            nodes.numbers[context + 1] = isInput ? 0 : 1;
            nodes.numbers[context + 2] = isInput ? inputAt(i) : policies[i - inputCount()];
        }

        private void writeSpent(Coins spent) {
            int list = nodes.add(Nodes.LIST, spent.size, 0, 0);
            for (int i = 0; i < spent.size; i++) {
                int coin = nodes.add(Nodes.LIST, 3, 0, 0);
                nodes.addInteger(spent.policies[i]);
                nodes.addInteger(spent.names[i]);
                nodes.addInteger(spent.amounts[i]);
                nodes.enclose(coin);
            }
            nodes.enclose(list);
        }

        private void writePaid() {
            int list = nodes.add(Nodes.LIST, outputCount(), 0, 0);
            for (int i = 0; i < outputCount(); i++) {
                int paid = nodes.add(Nodes.CONSTRUCTOR, 2, 0, 0);
                nodes.copyRow(addressNodes[i], 2);
                nodes.addInteger(values[i].amountOf(0, 0));
                nodes.enclose(paid);
            }
            nodes.enclose(list);
        }
    }

    /** The OUTPUTS, the POT and the BLOCKS. */
    static final class Ledger {
        private static final int MOST_OUTPUTS = 1024;
        private static final int MARKS = DEEPEST_UNDO + 1;

        private final Output[] outputs = new Output[MOST_OUTPUTS];
        private final int depth;
        int made;
        private int endowed;
        int height;
        int undoable;
        long pot;
        int applied;
        int taken;
        // What these were when a block was opened; the rows go round, since no more blocks can be undone.
        private final long[] potMarks = new long[MARKS];
        private final int[] appliedMarks = new int[MARKS];
        private final int[] takenMarks = new int[MARKS];
        /** What the INPUTS of the transaction that is judged have together. */
        final Coins spent = new Coins(64);
        private final Coins paid = new Coins(65);

        Ledger(int depth) {
            this.depth = depth;
        }

        Output outputAt(long number) {
            return number < 0 || number >= made ? null : outputs[(int) number];
        }

        private Output liveAt(long number) {
            Output output = outputAt(number);
            return output != null && output.isLive() ? output : null;
        }

        int endow(int owner, long amount) {
            if (amount < LEAST_BASE || amount > MOST_COINS || made >= MOST_OUTPUTS) {
                return NONE;
            }
            if (liveOf(0, 0) > MOST_COINS - amount) {
                return NONE;
            }
            Coins coins = new Coins(1);
            coins.append(0, 0, amount);
            // The bytes of the INTEGER 0 are one byte 0.
            outputs[made] = new Output(owner, coins, new byte[1], height);
            made++;
            endowed = made;
            return made - 1;
        }

        long liveOf(int policy, long name) {
            long sum = 0;
            for (int i = 0; i < made; i++) {
                if (outputs[i].isLive()) {
                    sum += outputs[i].coins.amountOf(policy, name);
                }
            }
            return sum;
        }

        int countLive() {
            int count = 0;
            for (int i = 0; i < made; i++) {
                if (outputs[i].isLive()) {
                    count++;
                }
            }
            return count;
        }

        int ownedAt(int address, int i) {
            if (i < 0) {
                return NONE;
            }
            int ahead = i;
            for (int number = 0; number < made; number++) {
                if (outputs[number].isLive() && outputs[number].address == address) {
                    if (ahead == 0) {
                        return number;
                    }
                    ahead--;
                }
            }
            return NONE;
        }

        /** The VERDICT from 8 on, of phase one. */
        int judge(Transaction transaction, int tapeLength) {
            if (!areInputsLive(transaction) || !isCollateralLive(transaction)) {
                return 8;
            }
            if (!transaction.isValidAt(height)) {
                return 9;
            }
            if (transaction.fee() < 10 + tapeLength / 8) {
                return 10;
            }
            if (!isBalanced(transaction) || mintsTooMuch(transaction)) {
                return 11;
            }
            if (!isSigned(transaction)) {
                return 12;
            }
            boolean runs = needsCollateral(transaction);
            if (runs && !isCollateralEnough(transaction)) {
                return 13;
            }
            for (int i = 0; i < transaction.outputCount(); i++) {
                if (transaction.values[i].amountOf(0, 0) < LEAST_BASE) {
                    return 14;
                }
            }
            if (made + transaction.outputCount() > MOST_OUTPUTS) {
                return 15;
            }
            return runs && transaction.countContext(spent) > Nodes.MOST ? 16 : 0;
        }

        boolean needsCollateral(Transaction transaction) {
            if (transaction.mint.size > 0) {
                return true;
            }
            for (int i = 0; i < transaction.inputCount(); i++) {
                Output output = outputAt(transaction.inputAt(i));
                if (output != null && output.address >= OWNERS) {
                    return true;
                }
            }
            return false;
        }

        private boolean areInputsLive(Transaction transaction) {
            for (int i = 0; i < transaction.inputCount(); i++) {
                long number = transaction.inputAt(i);
                if (liveAt(number) == null || isInput(transaction, number, i)) {
                    return false;
                }
            }
            return true;
        }

        /** Whether a NUMBER is one of the first INPUTS. */
        private static boolean isInput(Transaction transaction, long number, int first) {
            for (int i = 0; i < first; i++) {
                if (transaction.inputAt(i) == number) {
                    return true;
                }
            }
            return false;
        }

        private boolean isCollateralLive(Transaction transaction) {
            for (int i = 0; i < transaction.collateralCount(); i++) {
                long number = transaction.collateralAt(i);
                if (liveAt(number) == null || isInput(transaction, number, transaction.inputCount())) {
                    return false;
                }
                for (int k = 0; k < i; k++) {
                    if (transaction.collateralAt(k) == number) {
                        return false;
                    }
                }
            }
            return true;
        }

        private boolean isBalanced(Transaction transaction) {
            spent.size = 0;
            for (int i = 0; i < transaction.inputCount(); i++) {
                Output output = outputAt(transaction.inputAt(i));
                if (output != null) {
                    spent.addAll(output.coins);
                }
            }
            paid.size = 0;
            paid.add(0, 0, transaction.fee());
            for (int i = 0; i < transaction.outputCount(); i++) {
                // No more of a KIND than there can be comes from INPUTS and MINT together.
                if (!paid.addAll(transaction.values[i])) {
                    return false;
                }
            }
            Coins mint = transaction.mint;
            return areBalanced(paid, mint) && areBalanced(spent, mint) && areBalanced(mint, mint);
        }

        private boolean areBalanced(Coins kinds, Coins mint) {
            for (int i = 0; i < kinds.size; i++) {
                int policy = kinds.policies[i];
                long name = kinds.names[i];
                // The sum may wrap to below 0, which is never what is paid.
                if (spent.amountOf(policy, name) + mint.amountOf(policy, name) != paid.amountOf(policy, name)) {
                    return false;
                }
            }
            return true;
        }

        private boolean mintsTooMuch(Transaction transaction) {
            Coins mint = transaction.mint;
            for (int i = 0; i < mint.size; i++) {
                long minted = mint.amounts[i];
                if (minted > 0 && liveOf(mint.policies[i], mint.names[i]) > MOST_COINS - minted) {
                    return true;
                }
            }
            return false;
        }

        private boolean isSigned(Transaction transaction) {
            for (int i = 0; i < transaction.inputCount(); i++) {
                if (!isSignedBy(transaction, transaction.inputAt(i))) {
                    return false;
                }
            }
            for (int i = 0; i < transaction.collateralCount(); i++) {
                if (!isSignedBy(transaction, transaction.collateralAt(i))) {
                    return false;
                }
            }
            return true;
        }

        private boolean isSignedBy(Transaction transaction, long number) {
            Output output = outputAt(number);
            return output == null || output.address >= OWNERS || transaction.hasSigner(output.address);
        }

        private boolean isCollateralEnough(Transaction transaction) {
            long base = 0;
            for (int i = 0; i < transaction.collateralCount(); i++) {
                Output output = outputAt(transaction.collateralAt(i));
                if (output == null || output.address >= OWNERS || !output.coins.isBaseAlone()) {
                    return false;
                }
                base += output.coins.amountOf(0, 0);
            }
            // Twice the FEE may be no long.
            return transaction.collateralCount() > 0 && base / 2 >= transaction.fee();
        }

        void applyAll(Transaction transaction, byte[] tape) {
            for (int i = 0; i < transaction.inputCount(); i++) {
                spend(transaction.inputAt(i));
            }
            for (int i = 0; i < transaction.outputCount() && made < MOST_OUTPUTS; i++) {
                outputs[made] = new Output(transaction.addresses[i], transaction.values[i].makeCopy(),
                        transaction.makeDatum(i, tape), height);
                made++;
            }
            pot += transaction.fee();
            applied++;
        }

        void takeCollateral(Transaction transaction) {
            for (int i = 0; i < transaction.collateralCount(); i++) {
                pot += spend(transaction.collateralAt(i));
            }
            taken++;
        }

        /** The BASE of what is spent. */
        private long spend(long number) {
            Output output = liveAt(number);
            if (output == null) {
                return 0;
            }
            output.spentAt = height;
            return output.coins.amountOf(0, 0);
        }

        int close() {
            height++;
            undoable = Math.min(undoable + 1, depth);
            int mark = Math.floorMod(height, MARKS);
            potMarks[mark] = pot;
            appliedMarks[mark] = applied;
            takenMarks[mark] = taken;
            return height;
        }

        int undo(int n) {
            if (n < 0 || n > undoable) {
                return NONE;
            }
            height -= n;
            undoable -= n;
            while (made > endowed && outputs[made - 1].madeAt >= height) {
                made--;
                outputs[made] = null;
            }
            for (int i = 0; i < made; i++) {
                if (outputs[i].spentAt >= height) {
                    outputs[i].spentAt = NONE;
                }
            }
            int mark = Math.floorMod(height, MARKS);
            pot = potMarks[mark];
            applied = appliedMarks[mark];
            taken = takenMarks[mark];
            return height;
        }
    }

    /** The VALUES of a run, and what VARIABLES stand for. */
    static final class Values {
        static final int INTEGER = 0;
        static final int BYTES = 1;
        static final int TRUTH = 2;
        static final int UNIT = 3;
        static final int DATA = 4;
        static final int FUNCTION = 5;
        static final int DELAYED = 6;
        static final int BUILTIN = 7;

        // A constant has the place of its NODE; the others lie behind. A result is made before it is paid: one more.
        private static final int ROOM = Term.MOST + Machine.MOST_MEMORY + 1;

        private final Nodes nodes;
        final byte[] kinds = new byte[ROOM];
        /** Of an INTEGER or a TRUTH itself; of a BUILTIN which. */
        final long[] numbers = new long[ROOM];
        /** Of BYTES the place, of DATA or a body the NODE, of a BUILTIN the last VALUE that it was applied to. */
        final int[] firsts = new int[ROOM];
        /** Of BYTES how many, of a body what its VARIABLES stand for, of a BUILTIN that one before the last VALUE. */
        final int[] seconds = new int[ROOM];
        private int top;
        private final int[] bound = new int[Machine.MOST_MEMORY];
        private final int[] outer = new int[Machine.MOST_MEMORY];
        private int bindings;

        Values(Nodes nodes) {
            this.nodes = nodes;
        }

        void clearAll() {
            top = Term.MOST;
            bindings = 0;
        }

        void put(int at, int kind, long number, int first, int second) {
            kinds[at] = (byte) kind;
            numbers[at] = number;
            firsts[at] = first;
            seconds[at] = second;
        }

        int add(int kind, long number, int first, int second) {
            int value = top < ROOM ? top : ROOM - 1;
            kinds[value] = (byte) kind;
            numbers[value] = number;
            firsts[value] = first;
            seconds[value] = second;
            top = value + 1;
            return value;
        }

        /** What VARIABLES stand for within a body, one more being bound. */
        int bind(int value, int around) {
            int binding = Math.min(bindings, bound.length - 1);
            bound[binding] = value;
            outer[binding] = around;
            bindings = binding + 1;
            return binding;
        }

        int boundBy(int bindingsAround, long i) {
            int binding = bindingsAround;
            for (long k = 1; k < i && binding > NONE; k++) {
                binding = outer[binding];
            }
            return binding > NONE ? bound[binding] : 0;
        }

        int sizeOf(int value) {
            if (kinds[value] == BYTES) {
                return 1 + seconds[value] / 8;
            }
            if (kinds[value] == DATA) {
                int node = firsts[value];
                return nodes.spans[node] + nodes.bytesWithin(node) / 8;
            }
            return 1;
        }
    }

    /** What BUILTINS take and come to. */
    static final class Builtins {
        static final int MOST_TAKEN = 3;
        private static final long LEAST_LONG = 1L << 63;

        private static final int ANY = 6;
        private static final int FORMS = 6;
        // A digit for each VALUE, the first one highest: 1 INTEGER, 2 BYTES, 3 TRUTH, 5 DATA, 6 any VALUE,
        // 7 a LIST, 8 a MAP, 9 a CONSTRUCTOR, A an INTEGER as DATA, B BYTES as DATA.
        private static final int[] TAKES = {
            0x11, 0x11, 0x11, 0x11, 0x11, 0x11, 0x11, 0x11, 0x11, 0x11,
            0x22, 0x2, 0x21, 0x112, 0x22, 0x22,
            0x366, 0x55, 0x5, 0x9, 0x9, 0x17, 0x1, 0x2, 0xA, 0xB,
            0x7, 0x7, 0x57, 0x7, 0x7, 0x8,
        };

        private final Nodes nodes;
        private final Values values;
        /** The VALUES of the one that is DONE. */
        final int[] given = new int[MOST_TAKEN];

        Builtins(Nodes nodes, Values values) {
            this.nodes = nodes;
            this.values = values;
        }

        int takenBy(int builtin) {
            int takes = TAKES[builtin];
            return takes > 0xFF ? 3 : takes > 0xF ? 2 : 1;
        }

        boolean areOfKinds(int builtin) {
            int takes = TAKES[builtin];
            for (int i = takenBy(builtin) - 1; i >= 0; i--) {
                if (!isOfKind(given[i], takes & 15)) {
                    return false;
                }
                takes >>= 4;
            }
            return true;
        }

        private boolean isOfKind(int value, int digit) {
            int kind = values.kinds[value];
            if (digit <= FORMS) {
                return digit == ANY || kind == digit - 1;
            }
            if (kind != Values.DATA) {
                return false;
            }
            int form = nodes.kinds[values.firsts[value]];
            switch (digit) {
                case 7: return form == Nodes.LIST;
                case 8: return form == Nodes.MAP;
                case 9: return form == Nodes.CONSTRUCTOR;
                case 10: return form == Nodes.INTEGER;
                default: return form == Nodes.BYTES;
            }
        }

        /** The VALUE that it comes to, NONE without such a result. */
        int resultOf(int builtin) {
            if (builtin < 10) {
                return resultOfIntegers(builtin);
            }
            if (builtin < 16) {
                return resultOfBytes(builtin);
            }
            if (builtin == 16) {
                return values.numbers[given[0]] == 1 ? given[1] : given[2];
            }
            return builtin < 26 ? resultOfData(builtin) : resultOfLists(builtin);
        }

        private int resultOfIntegers(int builtin) {
            long a = values.numbers[given[0]];
            long b = values.numbers[given[1]];
            switch (builtin) {
                case 0: return ((a ^ (a + b)) & (b ^ (a + b))) < 0 ? NONE : integer(a + b);
                case 1: return ((a ^ b) & (a ^ (a - b))) < 0 ? NONE : integer(a - b);
                case 2: return product(a, b);
                case 7: return truth(a == b);
                case 8: return truth(a < b);
                case 9: return truth(a <= b);
                default: return divided(builtin, a, b);
            }
        }

        private int product(long a, long b) {
            boolean isNoLong = b != 0 && (b == -1 ? a == LEAST_LONG : a * b / b != a);
            return isNoLong ? NONE : integer(a * b);
        }

        private int divided(int builtin, long a, long b) {
            if (b == 0) {
                return NONE;
            }
            boolean isQuotient = builtin == 3 || builtin == 5;
            if (isQuotient && a == LEAST_LONG && b == -1) {
                return NONE;
            }
            switch (builtin) {
                case 3: return integer(Math.floorDiv(a, b));
                case 4: return integer(Math.floorMod(a, b));
                case 5: return integer(a / b);
                default: return integer(a % b);
            }
        }

        private int resultOfBytes(int builtin) {
            int place = values.firsts[given[0]];
            int count = values.seconds[given[0]];
            int other = given[1];
            switch (builtin) {
                case 10:
                    return joined(place, count, values.firsts[other], values.seconds[other]);
                case 11:
                    return integer(count);
                case 12:
                    long i = values.numbers[other];
                    return i < 0 || i >= count ? NONE : integer(nodes.bytes[place + (int) i] & 255);
                case 13:
                    return slice();
                case 14:
                    return truth(nodes.compareBytes(place, count, values.firsts[other], values.seconds[other]) == 0);
                default:
                    return truth(nodes.compareBytes(place, count, values.firsts[other], values.seconds[other]) < 0);
            }
        }

        private int joined(int place, int count, int otherPlace, int otherCount) {
            if (count + otherCount > Nodes.LONGEST) {
                return NONE;
            }
            int start = nodes.bytesTop;
            nodes.copyBytes(place, count);
            nodes.copyBytes(otherPlace, otherCount);
            return values.add(Values.BYTES, 0, start, count + otherCount);
        }

        private int slice() {
            long count = values.seconds[given[2]];
            long from = Math.min(Math.max(values.numbers[given[0]], 0), count);
            long many = Math.min(Math.max(values.numbers[given[1]], 0), count - from);
            return values.add(Values.BYTES, 0, values.firsts[given[2]] + (int) from, (int) many);
        }

        private int resultOfData(int builtin) {
            int value = given[0];
            int node = values.firsts[value];
            switch (builtin) {
                case 17:
                    return truth(nodes.areSame(node, values.firsts[given[1]]));
                case 18:
                    return integer(formOf(node));
                case 19:
                    return integer(nodes.numbers[node]);
                case 20:
                    return data(nodes.copyAs(node, Nodes.LIST, 0));
                case 21:
                    long number = values.numbers[value];
                    boolean isNone = number < 0 || number > 127;
                    return isNone ? NONE : data(nodes.copyAs(values.firsts[given[1]], Nodes.CONSTRUCTOR, number));
                case 22:
                    return data(nodes.addInteger(values.numbers[value]));
                case 23:
                    return data(nodes.add(Nodes.BYTES, values.seconds[value], 0, values.firsts[value]));
                case 24:
                    return integer(nodes.numbers[node]);
                default:
                    return values.add(Values.BYTES, 0, nodes.places[node], nodes.counts[node]);
            }
        }

        private int formOf(int node) {
            switch (nodes.kinds[node]) {
                case Nodes.CONSTRUCTOR: return 0;
                case Nodes.MAP: return 1;
                case Nodes.LIST: return 2;
                case Nodes.INTEGER: return 3;
                default: return 4;
            }
        }

        private int resultOfLists(int builtin) {
            int node = values.firsts[given[0]];
            int count = nodes.counts[node];
            switch (builtin) {
                case 26:
                    return count == 0 ? NONE : data(node + 1);
                case 27:
                    return count == 0 ? NONE : others(node);
                case 28:
                    return withAhead(node, values.firsts[given[1]]);
                case 29:
                    return truth(count == 0);
                case 30:
                    return count % 2 != 0 ? NONE : data(nodes.copyAs(node, Nodes.MAP, 0));
                default:
                    return data(nodes.copyAs(node, Nodes.LIST, 0));
            }
        }

        private int others(int list) {
            int result = nodes.add(Nodes.LIST, nodes.counts[list] - 1, 0, 0);
            int second = nodes.behind(list + 1);
            nodes.copyRow(second, nodes.behind(list) - second);
            nodes.enclose(result);
            return data(result);
        }

        private int withAhead(int first, int list) {
            boolean isTooLarge = nodes.spans[first] + nodes.spans[list] > Nodes.MOST;
            if (isTooLarge || nodes.depthOf(first) >= Nodes.DEEPEST) {
                return NONE;
            }
            int result = nodes.add(Nodes.LIST, nodes.counts[list] + 1, 0, 0);
            nodes.copyRow(first, nodes.spans[first]);
            nodes.copyRow(list + 1, nodes.spans[list] - 1);
            nodes.enclose(result);
            return data(result);
        }

        private int integer(long number) {
            return values.add(Values.INTEGER, number, 0, 0);
        }

        private int truth(boolean isSo) {
            return values.add(Values.TRUTH, isSo ? 1 : 0, 0, 0);
        }

        private int data(int node) {
            return values.add(Values.DATA, 0, node, 0);
        }
    }

    /** EVALUATES a script that is applied to DATA. */
    static final class Machine {
        static final int MOST_STEPS = 20000;
        static final int MOST_MEMORY = 3000;
        private static final int MOST_WAITING = 400;
        // A STEP leads to an APPLY's two VALUES and its call at most.
        private static final int MOST_TURNS = 8 * MOST_STEPS;

        private static final int MET_ERROR = 1;
        private static final int WRONG_KIND = 2;
        private static final int NO_RESULT = 3;
        private static final int NO_STEPS = 4;
        private static final int NO_MEMORY = 5;
        private static final int TOO_MANY_WAIT = 6;

        // What is to be done next. Each is a turn of its own, so that calls stay shallow.
        private static final int EVALUATE = 0;
        private static final int GIVE = 1;
        private static final int CALL = 2;
        private static final int FINISH = 3;
        private static final int RESULT = 4;
        private static final int OVER = 5;

        private static final int FOR_FUNCTION = 0;
        private static final int FOR_ARGUMENT = 1;
        private static final int FOR_DELAYED = 2;

        private final Nodes nodes;
        private final Values values;
        private final Builtins builtins;
        private final byte[] kinds = new byte[Term.MOST];
        private final long[] numbers = new long[Term.MOST];
        private final int[] seconds = new int[Term.MOST];
        private final byte[] waitingFor = new byte[MOST_WAITING];
        /** The APPLY, or its function's VALUE as soon as there is one. */
        private final int[] waitingWith = new int[MOST_WAITING];
        private final int[] waitingIn = new int[MOST_WAITING];
        private int waiting;
        private int mode;
        private int node;
        private int bindings;
        private int function;
        private int value;
        int answer;
        int steps;
        int memory;

        Machine(Nodes nodes) {
            this.nodes = nodes;
            values = new Values(nodes);
            builtins = new Builtins(nodes, values);
        }

        /** APPLYS of a script to DATA; without a DATUM if that is NONE. */
        void load(Term term, int datum, int redeemer, int context) {
            int applied = datum == NONE ? 2 : 3;
            int behind = applied + term.count;
            values.clearAll();
            nodes.bytesTop = Nodes.RESULTS_AT;
            System.arraycopy(term.bytes, 0, nodes.bytes, Nodes.SCRIPT_AT, term.bytes.length);
            System.arraycopy(term.kinds, 0, kinds, applied, term.count);
            System.arraycopy(term.numbers, 0, numbers, applied, term.count);
            System.arraycopy(term.seconds, 0, seconds, applied, term.count);
            for (int i = applied; i < behind; i++) {
                seconds[i] += applied;
            }
            loadConstants(applied, behind);
            for (int i = 0; i < applied; i++) {
                kinds[i] = Term.APPLY;
                seconds[i] = behind + i;
            }
            loadData(behind, context);
            loadData(behind + 1, redeemer);
            if (datum != NONE) {
                loadData(behind + 2, datum);
            }
        }

        private void loadData(int at, int data) {
            kinds[at] = Term.EMPTY;
            values.put(at, Values.DATA, 0, data, 0);
        }

        private void loadConstants(int from, int behind) {
            int empty = nodes.add(Nodes.LIST, 0, 0, 0);
            for (int i = from; i < behind; i++) {
                switch (kinds[i]) {
                    case Term.INTEGER:
                        values.put(i, Values.INTEGER, numbers[i], 0, 0);
                        break;
                    case Term.BYTES:
                        int place = Nodes.SCRIPT_AT + seconds[i] - from;
                        values.put(i, Values.BYTES, 0, place, (int) numbers[i]);
                        break;
                    case Term.TRUTH:
                        values.put(i, Values.TRUTH, numbers[i], 0, 0);
                        break;
                    case Term.UNIT:
                        values.put(i, Values.UNIT, 0, 0, 0);
                        break;
                    case Term.EMPTY:
                        values.put(i, Values.DATA, 0, empty, 0);
                        break;
                    default:
                        break;
                }
            }
        }

        void run() {
            waiting = 0;
            steps = 0;
            memory = 0;
            answer = 0;
            node = 0;
            bindings = NONE;
            mode = EVALUATE;
            for (int turn = 0; turn < MOST_TURNS && mode != OVER; turn++) {
                switch (mode) {
                    case EVALUATE:
                        evaluate();
                        break;
                    case GIVE:
                        give();
                        break;
                    case CALL:
                        call();
                        break;
                    case FINISH:
                        finish();
                        break;
                    default:
                        takeResult(builtins.resultOf((int) values.numbers[function]));
                        break;
                }
            }
        }

        int kindOfValue() {
            return answer == 0 ? values.kinds[value] : NONE;
        }

        boolean hasAccepted() {
            return answer == 0 && values.kinds[value] == Values.TRUTH && values.numbers[value] == 1;
        }

        private void fail(int why) {
            answer = why;
            mode = OVER;
        }

        private boolean paysSteps(int cost) {
            if (cost > MOST_STEPS - steps) {
                fail(NO_STEPS);
                return false;
            }
            steps += cost;
            return true;
        }

        private boolean paysMemory(int cost) {
            if (cost > MOST_MEMORY - memory) {
                fail(NO_MEMORY);
                return false;
            }
            memory += cost;
            return true;
        }

        private void comeTo(int result) {
            value = result;
            mode = GIVE;
        }

        private void goOn(int next, int around) {
            node = next;
            bindings = around;
            mode = EVALUATE;
        }

        private void evaluate() {
            if (!paysSteps(1)) {
                return;
            }
            switch (kinds[node]) {
                case Term.VARIABLE:
                    comeTo(values.boundBy(bindings, numbers[node]));
                    break;
                case Term.LAMBDA:
                    makeValue(Values.FUNCTION, 0, node + 1, bindings);
                    break;
                case Term.DELAY:
                    makeValue(Values.DELAYED, 0, node + 1, bindings);
                    break;
                case Term.BUILTIN:
                    makeValue(Values.BUILTIN, numbers[node], NONE, NONE);
                    break;
                case Term.APPLY:
                    waitFor(FOR_FUNCTION);
                    break;
                case Term.FORCE:
                    waitFor(FOR_DELAYED);
                    break;
                case Term.ERROR:
                    fail(MET_ERROR);
                    break;
                default:
                    comeTo(node);
                    break;
            }
        }

        private void makeValue(int kind, long number, int first, int second) {
            if (paysMemory(1)) {
                comeTo(values.add(kind, number, first, second));
            }
        }

        private void waitFor(int what) {
            if (waiting >= MOST_WAITING) {
                fail(TOO_MANY_WAIT);
                return;
            }
            waitingFor[waiting] = (byte) what;
            waitingWith[waiting] = node;
            waitingIn[waiting] = bindings;
            waiting++;
            goOn(node + 1, bindings);
        }

        /** What waits the latest gets the VALUE. */
        private void give() {
            if (waiting == 0) {
                mode = OVER;
                return;
            }
            int last = waiting - 1;
            switch (waitingFor[last]) {
                case FOR_FUNCTION:
                    int argument = seconds[waitingWith[last]];
                    waitingFor[last] = FOR_ARGUMENT;
                    waitingWith[last] = value;
                    goOn(argument, waitingIn[last]);
                    break;
                case FOR_ARGUMENT:
                    waiting = last;
                    function = waitingWith[last];
                    mode = CALL;
                    break;
                default:
                    waiting = last;
                    force();
                    break;
            }
        }

        private void force() {
            if (values.kinds[value] != Values.DELAYED) {
                fail(WRONG_KIND);
            } else {
                goOn(values.firsts[value], values.seconds[value]);
            }
        }

        private void call() {
            int kind = values.kinds[function];
            if (kind == Values.FUNCTION) {
                if (paysMemory(1)) {
                    goOn(values.firsts[function], values.bind(value, values.seconds[function]));
                }
            } else if (kind == Values.BUILTIN) {
                callBuiltin();
            } else {
                fail(WRONG_KIND);
            }
        }

        private void callBuiltin() {
            int builtin = (int) values.numbers[function];
            if (countGiven(function) + 1 < builtins.takenBy(builtin)) {
                makeValue(Values.BUILTIN, builtin, value, function);
            } else {
                mode = FINISH;
            }
        }

        private int countGiven(int applied) {
            int count = 0;
            for (int v = applied; count < Builtins.MOST_TAKEN && values.seconds[v] != NONE; v = values.seconds[v]) {
                count++;
            }
            return count;
        }

        /** The BUILTIN is DONE, as far as its VALUES allow. */
        private void finish() {
            int builtin = (int) values.numbers[function];
            if (!paysSteps(gather(builtin) + 1)) {
                return;
            }
            if (builtins.areOfKinds(builtin)) {
                mode = RESULT;
            } else {
                fail(WRONG_KIND);
            }
        }

        private void takeResult(int result) {
            if (result == NONE) {
                fail(NO_RESULT);
            } else if (paysMemory(values.sizeOf(result))) {
                comeTo(result);
            }
        }

        /** The SIZES of all its VALUES together. */
        private int gather(int builtin) {
            int last = builtins.takenBy(builtin) - 1;
            int sizes = values.sizeOf(value);
            int applied = function;
            builtins.given[last] = value;
            for (int i = last - 1; i >= 0; i--) {
                builtins.given[i] = values.firsts[applied];
                sizes += values.sizeOf(values.firsts[applied]);
                applied = values.seconds[applied];
            }
            return sizes;
        }
    }
}
