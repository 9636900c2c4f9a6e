import java.math.BigInteger;
import java.util.ArrayList;
import java.util.Arrays;
import java.util.List;

/** EVALUATES by recursion, as the document tells it. */
final class ModelMachine {
    /** kind as the document numbers them; a FUNCTION or DELAYED has its body and what its VARIABLES stand for. */
    record Value(int kind, long number, byte[] bytes, Data data, Term body, List<Value> around) {
        int size() {
            return kind == 1 ? 1 + bytes.length / 8 : kind == 4 ? data.size() : 1;
        }
    }

    private static final class Failed extends Exception {
        private static final long serialVersionUID = 1L;
        final int code;

        Failed(int code) {
            super(null, null, false, false);
            this.code = code;
        }
    }

    // What each BUILTIN takes, in the document's letters; c CONSTRUCTOR, m MAP, I INTEGER, S BYTES, all of them DATA.
    private static final String[] TAKES = {
        "ii", "ii", "ii", "ii", "ii", "ii", "ii", "ii", "ii", "ii", "ss", "s", "si", "iis", "ss", "ss",
        "tvv", "dd", "d", "c", "c", "il", "i", "s", "I", "S", "l", "l", "dl", "l", "l", "m"};

    int answer;
    int steps;
    int memory;
    Value result;
    private int waiting;

    void run(Term script, Data... arguments) {
        try {
            // The outermost APPLY is the last one: what it waits for has to be told in its order.
            result = applied(script, arguments, arguments.length);
        } catch (Failed failed) {
            answer = failed.code;
        }
    }

    private Value applied(Term script, Data[] arguments, int many) throws Failed {
        if (many == 0) {
            return evaluate(script, List.of());
        }
        pay(1);
        waitOne();
        Value function = applied(script, arguments, many - 1);
        pay(1);
        Value argument = ofData(arguments[many - 1]);
        waiting--;
        return call(function, argument);
    }

    private void pay(int cost) throws Failed {
        if (steps + cost > 20000) {
            throw new Failed(4);
        }
        steps += cost;
    }

    private void use(int cost) throws Failed {
        if (memory + cost > 3000) {
            throw new Failed(5);
        }
        memory += cost;
    }

    private void waitOne() throws Failed {
        if (waiting == 400) {
            throw new Failed(6);
        }
        waiting++;
    }

    private static Value ofData(Data data) {
        return new Value(4, 0, null, data, null, null);
    }

    private static Value ofInteger(BigInteger number) throws Failed {
        if (number.bitLength() > 63) {
            throw new Failed(3);
        }
        return new Value(0, number.longValue(), null, null, null, null);
    }

    private static Value ofTruth(boolean isSo) {
        return new Value(2, isSo ? 1 : 0, null, null, null, null);
    }

    private static Value ofBytes(byte[] bytes) {
        return new Value(1, 0, bytes, null, null, null);
    }

    private Value evaluate(Term first, List<Value> firstAround) throws Failed {
        Term term = first;
        List<Value> around = firstAround;
        // Bodies are what goes on here: they do not wait.
        while (true) {
            pay(1);
            switch (term.kind()) {
                case 0: return around.get(around.size() - (int) term.number());
                case 1: use(1); return new Value(5, 0, null, null, term.parts().get(0), around);
                case 3: use(1); return new Value(6, 0, null, null, term.parts().get(0), around);
                case 5: throw new Failed(1);
                case 6: use(1); return new Value(7, term.number(), null, null, null, List.of());
                case 7: return new Value(0, term.number(), null, null, null, null);
                case 8: return ofBytes(term.bytes());
                case 9: return ofTruth(term.number() == 1);
                case 10: return new Value(3, 0, null, null, null, null);
                case 11: return ofData(Data.l());
                default: break;
            }
            waitOne();
            Value value = evaluate(term.parts().get(0), around);
            if (term.kind() == 4) {
                waiting--;
                if (value.kind() != 6) {
                    throw new Failed(2);
                }
                term = value.body();
                around = value.around();
                continue;
            }
            Value argument = evaluate(term.parts().get(1), around);
            waiting--;
            if (value.kind() != 5) {
                return call(value, argument);
            }
            use(1);
            term = value.body();
            around = with(value.around(), argument);
        }
    }

    private static List<Value> with(List<Value> around, Value argument) {
        List<Value> more = new ArrayList<>(around);
        more.add(argument);
        return more;
    }

    private Value call(Value function, Value argument) throws Failed {
        if (function.kind() == 5) {
            use(1);
            return evaluate(function.body(), with(function.around(), argument));
        }
        if (function.kind() != 7) {
            throw new Failed(2);
        }
        List<Value> given = with(function.around(), argument);
        String takes = TAKES[(int) function.number()];
        if (given.size() < takes.length()) {
            use(1);
            return new Value(7, function.number(), null, null, null, given);
        }
        int sizes = 1;
        for (Value value : given) {
            sizes += value.size();
        }
        pay(sizes);
        for (int k = 0; k < given.size(); k++) {
            if (!isOf(given.get(k), takes.charAt(k))) {
                throw new Failed(2);
            }
        }
        Value done = done((int) function.number(), given);
        use(done.size());
        return done;
    }

    private static boolean isOf(Value value, char letter) {
        switch (letter) {
            case 'i': return value.kind() == 0;
            case 's': return value.kind() == 1;
            case 't': return value.kind() == 2;
            case 'd': return value.kind() == 4;
            case 'v': return true;
            case 'I': return isForm(value, 'i');
            case 'S': return isForm(value, 'b');
            default: return isForm(value, letter);
        }
    }

    private static boolean isForm(Value value, char form) {
        return value.kind() == 4 && value.data().form() == form;
    }

    private Value done(int b, List<Value> given) throws Failed {
        Value one = given.get(0);
        Value two = given.size() > 1 ? given.get(1) : null;
        if (b < 10) {
            return integers(b, BigInteger.valueOf(one.number()), BigInteger.valueOf(two.number()));
        }
        switch (b) {
            case 10: {
                byte[] all = Arrays.copyOf(one.bytes(), one.bytes().length + two.bytes().length);
                System.arraycopy(two.bytes(), 0, all, one.bytes().length, two.bytes().length);
                return ofBytes(ifSo(all.length <= 64, all));
            }
            case 11: return ofInteger(BigInteger.valueOf(one.bytes().length));
            case 12:
                ifSo(two.number() >= 0 && two.number() < one.bytes().length, one);
                return ofInteger(BigInteger.valueOf(one.bytes()[(int) two.number()] & 255));
            case 13: return slice(one.number(), two.number(), given.get(2).bytes());
            case 14: return ofTruth(Arrays.equals(one.bytes(), two.bytes()));
            case 15: return ofTruth(Arrays.compareUnsigned(one.bytes(), two.bytes()) < 0);
            case 16: return one.number() == 1 ? two : given.get(2);
            case 17: return ofTruth(one.data().same(two.data()));
            case 18: return ofInteger(BigInteger.valueOf("cmlib".indexOf(one.data().form())));
            case 19: return ofInteger(BigInteger.valueOf(one.data().number()));
            case 20: return ofData(Data.l(one.data().parts()));
            case 21: return checked(Data.c(ifSo(one.number() >= 0 && one.number() <= 127, one).number(),
                    two.data().parts()));
            case 22: return ofData(Data.i(one.number()));
            case 23: return ofData(Data.bytesOf(one.bytes()));
            case 24: return ofInteger(BigInteger.valueOf(one.data().number()));
            case 25: return ofBytes(one.data().bytes());
            default: return lists(b, one, two);
        }
    }

    private static <T> T ifSo(boolean isSo, T what) throws Failed {
        if (!isSo) {
            throw new Failed(3);
        }
        return what;
    }

    private static Value checked(Data data) throws Failed {
        return ofData(ifSo(data.nodes() <= 200 && data.depth() <= 12, data));
    }

    private static Value slice(long from, long many, byte[] bytes) {
        List<Byte> kept = new ArrayList<>();
        BigInteger start = BigInteger.valueOf(from).max(BigInteger.ZERO);
        BigInteger end = start.add(BigInteger.valueOf(many).max(BigInteger.ZERO));
        for (int k = 0; k < bytes.length; k++) {
            BigInteger place = BigInteger.valueOf(k);
            if (place.compareTo(start) >= 0 && place.compareTo(end) < 0) {
                kept.add(bytes[k]);
            }
        }
        byte[] row = new byte[kept.size()];
        for (int k = 0; k < row.length; k++) {
            row[k] = kept.get(k);
        }
        return ofBytes(row);
    }

    private static Value integers(int b, BigInteger x, BigInteger y) throws Failed {
        switch (b) {
            case 0: return ofInteger(x.add(y));
            case 1: return ofInteger(x.subtract(y));
            case 2: return ofInteger(x.multiply(y));
            case 7: return ofTruth(x.equals(y));
            case 8: return ofTruth(x.compareTo(y) < 0);
            case 9: return ofTruth(x.compareTo(y) <= 0);
            default: break;
        }
        ifSo(y.signum() != 0, y);
        BigInteger[] towardsZero = x.divideAndRemainder(y);
        boolean isBelow = towardsZero[1].signum() != 0 && towardsZero[1].signum() != y.signum();
        switch (b) {
            case 3: return ofInteger(isBelow ? towardsZero[0].subtract(BigInteger.ONE) : towardsZero[0]);
            case 4: return ofInteger(isBelow ? towardsZero[1].add(y) : towardsZero[1]);
            case 5: return ofInteger(towardsZero[0]);
            default: return ofInteger(towardsZero[1]);
        }
    }

    private static Value lists(int b, Value one, Value two) throws Failed {
        List<Data> parts = one.data().parts();
        switch (b) {
            case 26: return ofData(ifSo(!parts.isEmpty(), parts).get(0));
            case 27: return ofData(Data.l(ifSo(!parts.isEmpty(), parts).subList(1, parts.size())));
            case 28: {
                List<Data> all = new ArrayList<>();
                all.add(one.data());
                all.addAll(two.data().parts());
                return checked(Data.l(all));
            }
            case 29: return ofTruth(parts.isEmpty());
            case 30: return ofData(Data.m(ifSo(parts.size() % 2 == 0, parts)));
            default: return ofData(Data.l(parts));
        }
    }
}
