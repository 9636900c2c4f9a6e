import java.util.ArrayList;
import java.util.List;
import java.util.Random;

/** Makes TERMS and DATA by a seed. */
final class Random0 {
    // Types of terms: i INTEGER, s BYTES, t TRUTH, u UNIT, d any DATA, l LIST, m MAP, c CONSTRUCTOR, I and S as DATA.
    private static final String TYPES = "istudlmcIS";

    private final Random random;

    Random0(Random random) {
        this.random = random;
    }

    private int below(int n) {
        return random.nextInt(n);
    }

    long number() {
        long[] edges = {0, 1, -1, 2, 7, 8, 63, 64, 65, -64, -65, 127, 128, 255, 256, 65535, 65536,
            4294967295L, 4294967296L, Long.MAX_VALUE, Long.MIN_VALUE, Long.MIN_VALUE + 1, 1L << 62, -(1L << 62), 23, 24};
        switch (below(3)) {
            case 0: return edges[below(edges.length)];
            case 1: return below(12) - 3;
            default: return random.nextLong() >> below(64);
        }
    }

    byte[] bytes() {
        byte[] row = new byte[below(4) == 0 ? below(65) : below(10)];
        random.nextBytes(row);
        if (below(2) == 0) {
            for (int k = 0; k < row.length; k++) {
                row[k] = (byte) (row[k] & 1);
            }
        }
        return row;
    }

    Data data(int depth) {
        int form = depth <= 1 ? below(2) : below(6);
        List<Data> parts = new ArrayList<>();
        if (form >= 2) {
            int many = below(4) * (form == 3 ? 2 : 1);
            for (int k = 0; k < many; k++) {
                parts.add(data(depth - 1));
            }
        }
        switch (form) {
            case 0: return Data.i(number());
            case 1: return Data.bytesOf(bytes());
            case 3: return Data.m(parts);
            case 4: return Data.c(below(10) == 0 ? below(128) : below(3), parts);
            default: return Data.l(parts);
        }
    }

    /** A script of so many LAMBDAS, for DATA, that comes to a TRUTH most of the time. */
    Term script(int lambdas) {
        String around = lambdas == 3 ? "ddc" : "dc";
        return Term.lams(lambdas, term(below(12) == 0 ? any() : 't', 2 + below(6), around));
    }

    private char any() {
        return TYPES.charAt(below(TYPES.length()));
    }

    /** A term of a type, most of the time; the types of VARIABLES around it, the innermost last. */
    Term term(char type, int fuel, String around) {
        if (below(150) == 0) {
            return wild(fuel, around);
        }
        if (below(3) == 0 || fuel <= 0) {
            Term variable = variable(type, around);
            if (variable != null) {
                return variable;
            }
        }
        if (fuel > 0) {
            switch (below(9)) {
                case 0: {
                    char bound = any();
                    return Term.app(Term.lam(term(type, fuel - 1, around + bound)), term(bound, fuel - 1, around));
                }
                case 1: return Term.force(Term.delay(term(type, fuel - 1, around)));
                case 2: return Term.fn(16, term('t', fuel - 1, around), term(type, fuel - 1, around),
                        term(type, fuel - 1, around));
                case 3: return Term.force(Term.fn(16, term('t', fuel - 1, around),
                        Term.delay(term(type, fuel - 1, around)), Term.delay(term(type, fuel - 1, around))));
                default: break;
            }
        }
        return fuel <= 0 ? constant(type) : made(type, fuel - 1, around);
    }

    private Term wild(int fuel, String around) {
        switch (below(6)) {
            case 0: return Term.error();
            case 1: return Term.fn(below(32));
            case 2: return Term.delay(Term.unit());
            case 3: return Term.app(term(any(), fuel - 1, around), term(any(), fuel - 1, around));
            case 4: return Term.force(term(any(), fuel - 1, around));
            default: return Term.fn(below(32), term(any(), fuel - 1, around), term(any(), fuel - 1, around));
        }
    }

    private Term variable(char type, String around) {
        List<Integer> fit = new ArrayList<>();
        for (int k = 0; k < around.length(); k++) {
            char had = around.charAt(k);
            if (had == type || type == 'd' && "lmcIS".indexOf(had) >= 0) {
                fit.add(around.length() - k);
            }
        }
        return fit.isEmpty() ? null : Term.v(fit.get(below(fit.size())));
    }

    private Term constant(char type) {
        switch (type) {
            case 'i': return Term.i(number());
            case 's': return new Term(8, 0, bytes(), List.of());
            case 't': return Term.t(below(3) == 0 ? 0 : 1);
            case 'u': return Term.unit();
            case 'l': return Term.empty();
            case 'm': return Term.fn(30, Term.empty());
            case 'c': return Term.fn(21, Term.i(below(4)), Term.empty());
            case 'S': return Term.fn(23, constant('s'));
            case 'I': return Term.fn(22, constant('i'));
            default: return below(2) == 0 ? Term.empty() : Term.fn(22, constant('i'));
        }
    }

    private Term made(char type, int fuel, String a) {
        switch (type) {
            case 'i':
                switch (below(8)) {
                    case 0: return constant('i');
                    case 1: return Term.fn(11, term('s', fuel, a));
                    case 2: return Term.fn(12, term('s', fuel, a), Term.i(below(6)));
                    case 3: return Term.fn(18, term('d', fuel, a));
                    case 4: return Term.fn(19, term('c', fuel, a));
                    case 5: return Term.fn(24, term('I', fuel, a));
                    default: return Term.fn(below(7), term('i', fuel, a), term('i', fuel, a));
                }
            case 's':
                switch (below(4)) {
                    case 0: return constant('s');
                    case 1: return Term.fn(10, term('s', fuel, a), term('s', fuel, a));
                    case 2: return Term.fn(13, term('i', fuel, a), term('i', fuel, a), term('s', fuel, a));
                    default: return Term.fn(25, term('S', fuel, a));
                }
            case 't':
                switch (below(5)) {
                    case 0: return constant('t');
                    case 1: return Term.fn(14 + below(2), term('s', fuel, a), term('s', fuel, a));
                    case 2: return Term.fn(17, term('d', fuel, a), term('d', fuel, a));
                    case 3: return Term.fn(29, term('l', fuel, a));
                    default: return Term.fn(7 + below(3), term('i', fuel, a), term('i', fuel, a));
                }
            case 'l':
                switch (below(5)) {
                    case 0: return Term.fn(20, term('c', fuel, a));
                    case 1: return Term.fn(27, term('l', fuel, a));
                    case 2: return Term.fn(31, term('m', fuel, a));
                    default: return Term.fn(28, term('d', fuel, a), term('l', fuel, a));
                }
            case 'm': return Term.fn(30, below(2) == 0 ? term('l', fuel, a)
                    : Term.fn(28, term('d', fuel, a), Term.fn(28, term('d', fuel, a), Term.empty())));
            case 'c': return Term.fn(21, term('i', 0, a), term('l', fuel, a));
            case 'S': return Term.fn(23, term('s', fuel, a));
            case 'I': return Term.fn(22, term('i', fuel, a));
            case 'd': return below(3) == 0 ? Term.fn(26, term('l', fuel, a)) : term("lmcIS".charAt(below(5)), fuel, a);
            default: return constant(type);
        }
    }
}
