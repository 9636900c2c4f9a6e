/** Promise 6, BUILTINS: what they come to, and when they fail. */
public final class Promise06BuiltinsTest {
    private static final long LEAST = Long.MIN_VALUE;
    private static final long MOST = Long.MAX_VALUE;
    private static final int WRONG_KIND = 2;
    private static final int NO_RESULT = 3;

    public static void main(String[] args) {
        sums();
        products();
        divisions();
        comparisons();
        bytes();
        slices();
        choice();
        dataEqual();
        forms();
        constructors();
        lists();
        largeAndDeep();
        maps();
        kinds();
        Check.end();
    }

    private static void due(int builtin, long a, long b, long want) {
        Lab.dueInteger("BUILTIN " + builtin + " of " + a + ", " + b, Term.fn(builtin, Term.i(a), Term.i(b)), want);
    }

    private static void none(int builtin, long a, long b) {
        Lab.dueAnswer("BUILTIN " + builtin + " of " + a + ", " + b,
                Term.fn(builtin, Term.i(a), Term.i(b)), NO_RESULT);
    }

    private static void sums() {
        due(0, 2, 3, 5);
        due(0, MOST, LEAST, -1);
        due(0, MOST - 1, 1, MOST);
        due(0, LEAST + 1, -1, LEAST);
        none(0, MOST, 1);
        none(0, LEAST, -1);
        none(0, LEAST, LEAST);
        due(1, 2, 3, -1);
        due(1, -1, LEAST, MOST);
        due(1, LEAST, LEAST, 0);
        due(1, LEAST + 1, 1, LEAST);
        none(1, 0, LEAST);
        none(1, LEAST, 1);
        none(1, MOST, -1);
    }

    private static void products() {
        due(2, 6, -7, -42);
        due(2, 0, LEAST, 0);
        due(2, LEAST, 0, 0);
        due(2, LEAST, 1, LEAST);
        due(2, 1, LEAST, LEAST);
        due(2, MOST, -1, -MOST);
        due(2, 1L << 31, 1L << 31, 1L << 62);
        due(2, -(1L << 32), 1L << 31, LEAST);
        none(2, LEAST, -1);
        none(2, -1, LEAST);
        none(2, 1L << 32, 1L << 31);
        none(2, MOST, 2);
        none(2, LEAST, LEAST);
        none(2, 3037000500L, 3037000500L);
        due(2, 3037000499L, 3037000499L, 3037000499L * 3037000499L);
    }

    private static void divisions() {
        long[][] rows = {
            // a, b, rounded down: quotient, remainder; towards 0: quotient, remainder
            {7, 2, 3, 1, 3, 1}, {-7, 2, -4, 1, -3, -1}, {7, -2, -4, -1, -3, 1}, {-7, -2, 3, -1, 3, -1},
            {6, 3, 2, 0, 2, 0}, {-6, 3, -2, 0, -2, 0}, {0, -5, 0, 0, 0, 0}, {LEAST, 1, LEAST, 0, LEAST, 0},
            {LEAST, 2, LEAST / 2, 0, LEAST / 2, 0}, {LEAST, MOST, -2, MOST - 1, -1, -1},
            {MOST, LEAST, -1, -1, 0, MOST}, {MOST, -1, -MOST, 0, -MOST, 0}, {1, LEAST, -1, LEAST + 1, 0, 1}};
        for (long[] row : rows) {
            for (int k = 0; k < 4; k++) {
                due(3 + k, row[0], row[1], row[2 + k]);
            }
        }
        for (int builtin = 3; builtin <= 6; builtin++) {
            none(builtin, 5, 0);
            none(builtin, LEAST, 0);
        }
        none(3, LEAST, -1);
        none(5, LEAST, -1);
        due(4, LEAST, -1, 0);
        due(6, LEAST, -1, 0);
    }

    private static void comparisons() {
        long[] numbers = {LEAST, -1, 0, 1, MOST};
        for (long a : numbers) {
            for (long b : numbers) {
                Lab.dueTruth(a + " = " + b, Term.fn(7, Term.i(a), Term.i(b)), a == b);
                Lab.dueTruth(a + " < " + b, Term.fn(8, Term.i(a), Term.i(b)), a < b);
                Lab.dueTruth(a + " <= " + b, Term.fn(9, Term.i(a), Term.i(b)), a <= b);
            }
        }
    }

    private static void bytes() {
        Lab.dueBytes("one behind the other", Term.fn(10, Term.s(1, 2), Term.s(255)), Term.s(1, 2, 255));
        Lab.dueBytes("nothing behind nothing", Term.fn(10, Term.s(), Term.s()), Term.s());
        Lab.dueInteger("64 of them", Term.fn(11, Term.fn(10, Term.ss(31), Term.ss(33))), 64);
        Lab.dueAnswer("65 of them", Term.fn(10, Term.ss(32), Term.ss(33)), NO_RESULT);
        Lab.dueInteger("how many", Term.fn(11, Term.s()), 0);
        Lab.dueInteger("byte 0", Term.fn(12, Term.s(200, 5), Term.i(0)), 200);
        Lab.dueInteger("byte 1", Term.fn(12, Term.s(200, 255), Term.i(1)), 255);
        for (long i : new long[] {-1, 2, 1L << 32, LEAST, MOST}) {
            Lab.dueAnswer("byte " + i, Term.fn(12, Term.s(200, 5), Term.i(i)), NO_RESULT);
        }
        int[][] rows = {{}, {0}, {0, 0}, {1}, {127}, {128}, {255}, {128, 1}};
        for (int a = 0; a < rows.length; a++) {
            for (int b = 0; b < rows.length; b++) {
                boolean isLess = java.util.Arrays.compare(rows[a], rows[b]) < 0;
                Lab.dueTruth("equal", Term.fn(14, Term.s(rows[a]), Term.s(rows[b])), a == b);
                Lab.dueTruth("less", Term.fn(15, Term.s(rows[a]), Term.s(rows[b])), isLess);
            }
        }
    }

    private static void dueSlice(long from, long many, int... want) {
        Lab.dueBytes(many + " from " + from + " on",
                Term.fn(13, Term.i(from), Term.i(many), Term.s(10, 11, 12, 13)), Term.s(want));
    }

    private static void slices() {
        dueSlice(0, 4, 10, 11, 12, 13);
        dueSlice(1, 2, 11, 12);
        dueSlice(1, 9, 11, 12, 13);
        dueSlice(3, MOST, 13);
        dueSlice(4, 1);
        dueSlice(5, 1);
        dueSlice(MOST, MOST);
        dueSlice(MOST, 1);
        dueSlice(-1, 2, 10, 11);
        dueSlice(LEAST, MOST, 10, 11, 12, 13);
        dueSlice(0, -1);
        dueSlice(0, LEAST);
        dueSlice(2, 0);
        dueSlice((1L << 32) + 1, 2);
        dueSlice(1, (1L << 32), 11, 12, 13);
    }

    private static void choice() {
        Lab.dueInteger("the first", Term.fn(16, Term.t(1), Term.i(5), Term.unit()), 5);
        Lab.dueInteger("the second", Term.fn(16, Term.t(0), Term.unit(), Term.i(6)), 6);
        Lab.dueInteger("a FUNCTION", Term.app(Term.fn(16, Term.t(1), Term.lam(Term.v(1)), Term.unit()), Term.i(7)), 7);
        Lab.dueAnswer("both are EVALUATED", Term.fn(16, Term.t(1), Term.i(5), Term.error()), 1);
        Lab.dueAnswer("of an INTEGER", Term.fn(16, Term.i(1), Term.i(5), Term.i(5)), WRONG_KIND);
    }

    private static void dueSame(Data one, Data other, boolean want) {
        Lab.dueTruth("equal DATA", Term.fn(17, Term.make(one), Term.make(other)), want);
        Lab.dueTruth("equal DATA", Term.fn(17, Term.make(other), Term.make(one)), want);
    }

    private static void dataEqual() {
        Data[] rows = {Data.i(0), Data.i(1), Data.i(-1), Data.b(), Data.b(0), Data.b(1), Data.l(), Data.m(), Data.c(0),
            Data.c(1), Data.l(Data.i(0)), Data.l(Data.l(), Data.l()), Data.l(Data.l(Data.l())),
            Data.m(Data.i(0), Data.i(1)), Data.l(Data.i(0), Data.i(1)), Data.c(0, Data.i(0), Data.i(1)),
            Data.l(Data.b(1, 2), Data.b(3)), Data.l(Data.b(1), Data.b(2, 3)), Data.l(Data.b(1, 2), Data.b(4))};
        for (int a = 0; a < rows.length; a++) {
            for (int b = a; b < rows.length; b++) {
                dueSame(rows[a], rows[b], a == b);
            }
        }
    }

    private static void forms() {
        Lab.dueInteger("CONSTRUCTOR", Term.fn(18, Term.make(Data.c(5))), 0);
        Lab.dueInteger("MAP", Term.fn(18, Term.make(Data.m())), 1);
        Lab.dueInteger("LIST", Term.fn(18, Term.empty()), 2);
        Lab.dueInteger("INTEGER", Term.fn(18, Term.make(Data.i(0))), 3);
        Lab.dueInteger("BYTES", Term.fn(18, Term.make(Data.b())), 4);
        for (long number : new long[] {LEAST, -1, 0, 1, MOST}) {
            Lab.dueData("to DATA", Term.fn(22, Term.i(number)), Data.i(number));
            Lab.dueInteger("from DATA", Term.fn(24, Term.fn(22, Term.i(number))), number);
        }
        Lab.dueData("to DATA", Term.fn(23, Term.s(1, 255)), Data.b(1, 255));
        Lab.dueBytes("from DATA", Term.fn(25, Term.fn(23, Term.s(1, 255))), Term.s(1, 255));
        Lab.dueBytes("from the REDEEMER's slice",
                Term.fn(25, Term.fn(23, Term.fn(13, Term.i(1), Term.i(2), Term.s(9, 8, 7, 6)))), Term.s(8, 7));
    }

    private static void constructors() {
        Data fields = Data.l(Data.i(4), Data.b(5), Data.l(Data.i(6)));
        for (int number : new int[] {0, 6, 7, 127}) {
            Data data = Data.c(number, fields.parts());
            Lab.dueInteger("its number", Term.fn(19, Term.make(data)), number);
            Lab.dueData("its fields", Term.fn(20, Term.make(data)), fields);
            Lab.dueData("a CONSTRUCTOR", Term.fn(21, Term.i(number), Term.make(fields)), data);
        }
        Lab.dueData("no fields", Term.fn(20, Term.make(Data.c(3))), Data.l());
        for (long number : new long[] {-1, 128, 1L << 32, LEAST, MOST}) {
            Lab.dueAnswer("CONSTRUCTOR " + number, Term.fn(21, Term.i(number), Term.empty()), NO_RESULT);
        }
    }

    private static void lists() {
        Data list = Data.l(Data.c(1, Data.i(2), Data.i(3)), Data.m(Data.i(4), Data.b(5)), Data.i(6));
        Lab.dueData("the first", Term.fn(26, Term.make(list)), list.parts().get(0));
        Lab.dueData("the others", Term.fn(27, Term.make(list)), Data.l(list.parts().subList(1, 3)));
        Lab.dueData("the others of one", Term.fn(27, Term.make(Data.l(Data.l(Data.i(1))))), Data.l());
        Lab.dueData("the second", Term.fn(26, Term.fn(27, Term.make(list))), list.parts().get(1));
        Lab.dueAnswer("the first of none", Term.fn(26, Term.empty()), NO_RESULT);
        Lab.dueAnswer("the others of none", Term.fn(27, Term.empty()), NO_RESULT);
        Lab.dueTruth("EMPTY", Term.fn(29, Term.empty()), true);
        Lab.dueTruth("not EMPTY", Term.fn(29, Term.make(Data.l(Data.l()))), false);
        Lab.dueData("that ahead", Term.fn(28, Term.make(Data.l(Data.i(7))), Term.make(list)),
                Data.l(Data.l(Data.i(7)), list.parts().get(0), list.parts().get(1), list.parts().get(2)));
        Lab.dueData("ahead of none", Term.fn(28, Term.make(Data.b(1)), Term.empty()), Data.l(Data.b(1)));
    }

    private static void dueAhead(String what, Data redeemer, Term first, Term list, int want) {
        Check.due(what, Lab.run(Term.fn(28, first, list), redeemer).x.latestOf(3), want);
    }

    private static void largeAndDeep() {
        Term redeemer = Term.v(2);
        dueAhead("100 NODES and 100", Data.wide(100), redeemer, redeemer, 0);
        dueAhead("101 NODES and 101", Data.wide(101), redeemer, redeemer, NO_RESULT);
        // 150 NODES, and 50 or 51: 30, and 20 or 21 more.
        Data both = Data.l(Data.wide(100), Data.wide(50));
        Term hundred = Term.fn(26, redeemer);
        Term fifty = Term.fn(26, Term.fn(27, redeemer));
        Term hundredFifty = Term.fn(28, fifty, hundred);
        dueAhead("50 NODES and 150", both, fifty, hundredFifty, 0);
        dueAhead("150 NODES and 50", both, hundredFifty, fifty, 0);
        dueAhead("51 NODES and 150", both, Term.fn(28, Term.make(Data.i(0)), fifty), hundredFifty, NO_RESULT);
        dueAhead("DEPTH 8 in a LIST", Data.deep(8), redeemer, redeemer, 0);
        for (int lists = 2; lists <= 5; lists++) {
            Term term = redeemer;
            for (int k = 1; k < lists; k++) {
                term = Term.fn(28, term, Term.empty());
            }
            // It has DEPTH 8 + lists.
            dueAhead("DEPTH " + (8 + lists), Data.deep(8), term, Term.empty(), lists <= 4 ? 0 : NO_RESULT);
        }
        Term eleven = Term.fn(28, Term.fn(28, Term.fn(28, redeemer, Term.empty()), Term.empty()), Term.empty());
        Term twelve = Term.fn(28, eleven, Term.empty());
        dueAhead("an INTEGER ahead of DEPTH 12", Data.deep(8), Term.make(Data.i(0)), twelve, 0);
        dueAhead("DEPTH 11 ahead of DEPTH 12", Data.deep(8), eleven, twelve, 0);
        dueAhead("DEPTH 12 ahead of an INTEGER", Data.deep(8), twelve, Term.make(Data.l(Data.i(0))), NO_RESULT);
        Check.due("a CONSTRUCTOR of DEPTH 12",
                Lab.run(Term.fn(21, Term.i(5), twelve), Data.deep(8)).x.latestOf(3), 0);
    }

    private static void maps() {
        Data list = Data.l(Data.i(1), Data.l(Data.i(2)), Data.i(1), Data.b(3));
        Data map = Data.m(list.parts());
        Lab.dueData("a MAP", Term.fn(30, Term.make(list)), map);
        Lab.dueData("a MAP of none", Term.fn(30, Term.empty()), Data.m());
        Lab.dueData("its keys and values", Term.fn(31, Term.make(map)), list);
        Lab.dueData("of none", Term.fn(31, Term.make(Data.m())), Data.l());
        Lab.dueAnswer("of an odd number", Term.fn(30, Term.make(Data.l(Data.i(1)))), NO_RESULT);
        Lab.dueAnswer("of three", Term.fn(30, Term.make(Data.l(Data.i(1), Data.i(2), Data.i(3)))), NO_RESULT);
        Check.due("of a MAP that was read", Lab.run(Term.fn(17, Term.fn(30, Term.fn(31, Term.v(2))), Term.v(2)), map)
                .x.latestOf(0), 0);
    }

    /** Each VALUE of each BUILTIN, of every kind. */
    private static void kinds() {
        String[] takes = {"ii", "ii", "ii", "ii", "ii", "ii", "ii", "ii", "ii", "ii", "ss", "s", "si", "iis", "ss", "ss",
            "tvv", "dd", "d", "c", "c", "il", "i", "s", "I", "S", "l", "l", "dl", "l", "l", "m"};
        String letters = "istuDlmcISfzb";
        for (int builtin = 0; builtin < 32; builtin++) {
            for (int place = 0; place < takes[builtin].length(); place++) {
                for (char letter : letters.toCharArray()) {
                    Term[] given = new Term[takes[builtin].length()];
                    for (int k = 0; k < given.length; k++) {
                        given[k] = value(k == place ? letter : takes[builtin].charAt(k));
                    }
                    boolean fits = fits(takes[builtin].charAt(place), letter);
                    Lab.dueAnswer("BUILTIN " + builtin + " with " + letter + " at " + place, Term.fn(builtin, given),
                            fits ? 0 : WRONG_KIND);
                }
            }
        }
    }

    private static boolean fits(char taken, char letter) {
        return taken == letter || taken == 'v' || taken == 'd' && "DlmcIS".indexOf(letter) >= 0
                || taken == 'l' && letter == 'D';
    }

    private static Term value(char letter) {
        switch (letter) {
            case 'i': return Term.i(1);
            case 's': return Term.s(1, 2);
            case 't': return Term.t(1);
            case 'u': return Term.unit();
            case 'm': return Term.make(Data.m(Data.i(1), Data.i(2)));
            case 'c': return Term.make(Data.c(0, Data.i(1)));
            case 'I': return Term.make(Data.i(1));
            case 'S': return Term.make(Data.b(1));
            case 'f': return Term.lam(Term.v(1));
            case 'z': return Term.delay(Term.unit());
            case 'b': return Term.fn(0);
            default: return Term.make(Data.l(Data.i(1), Data.i(2)));
        }
    }
}
