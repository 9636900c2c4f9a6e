import java.io.ByteArrayOutputStream;
import java.math.BigInteger;
import java.util.List;

/** A TERM as a tree. */
record Term(int kind, long number, byte[] bytes, List<Term> parts) {
    private static Term of(int kind, long number, Term... parts) {
        return new Term(kind, number, null, List.of(parts));
    }

    static Term v(int i) {
        return of(0, i);
    }

    static Term lam(Term body) {
        return of(1, 0, body);
    }

    static Term lams(int many, Term body) {
        return many == 0 ? body : lam(lams(many - 1, body));
    }

    static Term app(Term function, Term... arguments) {
        Term result = function;
        for (Term argument : arguments) {
            result = of(2, 0, result, argument);
        }
        return result;
    }

    static Term delay(Term body) {
        return of(3, 0, body);
    }

    static Term force(Term term) {
        return of(4, 0, term);
    }

    static Term error() {
        return of(5, 0);
    }

    static Term fn(int builtin, Term... arguments) {
        return app(of(6, builtin), arguments);
    }

    static Term i(long v) {
        return of(7, v);
    }

    static Term s(int... bytes) {
        return new Term(8, 0, Data.b(bytes).bytes(), List.of());
    }

    /** BYTES, so many, all of them 7. */
    static Term ss(int many) {
        return new Term(8, 0, Data.bs(many).bytes(), List.of());
    }

    static Term t(int truth) {
        return of(9, truth);
    }

    static Term unit() {
        return of(10, 0);
    }

    static Term empty() {
        return of(11, 0);
    }

    /** A term that comes to these DATA. */
    static Term make(Data data) {
        switch (data.form()) {
            case 'i': return fn(22, i(data.number()));
            case 'b': return fn(23, new Term(8, 0, data.bytes(), List.of()));
            case 'm': return fn(30, makeList(data.parts(), 0));
            case 'c': return fn(21, i(data.number()), makeList(data.parts(), 0));
            default: return makeList(data.parts(), 0);
        }
    }

    private static Term makeList(List<Data> parts, int from) {
        return from == parts.size() ? empty() : fn(28, make(parts.get(from)), makeList(parts, from + 1));
    }

    int nodes() {
        int sum = 1;
        for (Term part : parts) {
            sum += part.nodes();
        }
        return sum;
    }

    int depth() {
        int most = 0;
        for (Term part : parts) {
            most = Math.max(most, part.depth());
        }
        return 1 + most;
    }

    byte[] encode() {
        ByteArrayOutputStream out = new ByteArrayOutputStream();
        write(out);
        return out.toByteArray();
    }

    private void write(ByteArrayOutputStream out) {
        out.write(kind);
        if (kind == 0) {
            unsigned(out, number);
        } else if (kind == 6 || kind == 9) {
            out.write((int) number);
        } else if (kind == 7) {
            signed(out, BigInteger.valueOf(number));
        } else if (kind == 8) {
            out.write(bytes.length);
            out.write(bytes, 0, bytes.length);
        }
        for (Term part : parts) {
            part.write(out);
        }
    }

    static void unsigned(ByteArrayOutputStream out, long number) {
        long rest = number;
        while (rest >= 128) {
            out.write((int) (rest % 128) + 128);
            rest /= 128;
        }
        out.write((int) rest);
    }

    static void signed(ByteArrayOutputStream out, BigInteger number) {
        BigInteger rest = number;
        // -64 .. 63 is what a last group can hold with its sign.
        while (rest.compareTo(BigInteger.valueOf(-64)) < 0 || rest.compareTo(BigInteger.valueOf(63)) > 0) {
            out.write(rest.intValue() & 127 | 128);
            rest = rest.shiftRight(7);
        }
        out.write(rest.intValue() & 127);
    }
}
