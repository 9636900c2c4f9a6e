import java.util.Arrays;

/** Promise 6, BUILTINS: what they come to, and when they fail. */
public final class Promise06BuiltinsTest {
    private static final long LEAST = Long.MIN_VALUE;
    private static final long MOST = Long.MAX_VALUE;
    private static final int WRONG_KIND = 2;
    private static final int NO_RESULT = 3;

    public static void main(String[] args) {
        Edge.of("0 (i, i) sum; 1 difference; 2 product", Promise06BuiltinsTest::sums);
        Edge.of("2 product", Promise06BuiltinsTest::products);
        Edge.of("3 quotient, 4 remainder, rounded down; 5 quotient, 6 remainder, rounded towards 0",
                Promise06BuiltinsTest::divisions);
        Edge.of("(no such result: it is no long, or the second is 0)", Promise06BuiltinsTest::noQuotient);
        Edge.of("7 (i, i) TRUTH: equal; 8 less; 9 at most.", Promise06BuiltinsTest::comparisons);
        Edge.of("10 (s, s) one behind the other (none if more than 64); 11 (s) how many", Promise06BuiltinsTest::joined);
        Edge.of("12 (s, i) byte i, 0 .. 255 (none if there is none)", Promise06BuiltinsTest::byteAt);
        Edge.of("13 (i, i, s) from a place on (below 0: from 0 on), so many (below 0: none), as far as there are",
                Promise06BuiltinsTest::slices);
        Edge.of("14 (s, s) equal; 15 less, byte by byte, 0 .. 255, from the first on (one that the other one begins with is"
                + " less)", Promise06BuiltinsTest::comparedBytes);
        Edge.of("16 (t, v, v) the first VALUE if the TRUTH is so, else the second.", Promise06BuiltinsTest::choice);
        Edge.of("17 (d, d) equal", Promise06BuiltinsTest::dataEqual);
        Edge.of("18 (d) an INTEGER: 0 CONSTRUCTOR, 1 MAP, 2 LIST, 3 INTEGER, 4 BYTES", Promise06BuiltinsTest::forms);
        Edge.of("19 (d, a CONSTRUCTOR) its number; 20 its fields, a LIST", Promise06BuiltinsTest::constructors);
        Edge.of("21 (i, l) a CONSTRUCTOR (none if the number is none, or DATA can't be so large or deep)",
                Promise06BuiltinsTest::madeConstructors);
        Edge.of("22 (i) DATA; 23 (s) DATA; 24 (d, an INTEGER) an INTEGER; 25 (d, BYTES) BYTES",
                Promise06BuiltinsTest::toAndFromData);
        Edge.of("26 (l) its first; 27 the others, a LIST (both none if it is EMPTY)", Promise06BuiltinsTest::lists);
        Edge.of("28 (d, l) a LIST with that ahead (none if too large or deep)", Promise06BuiltinsTest::ahead);
        Edge.of("(none if too large or deep)", Promise06BuiltinsTest::tooLarge);
        Edge.of("(none if too large or deep)", Promise06BuiltinsTest::tooDeep);
        Edge.of("29 (l) TRUTH: EMPTY", Promise06BuiltinsTest::isEmpty);
        Edge.of("30 (l) a MAP of what is there, key and value in turn (none if that is an odd number)",
                Promise06BuiltinsTest::maps);
        Edge.of("31 (d, a MAP) the LIST of its keys and values in turn.", Promise06BuiltinsTest::listsOfMaps);
        Edge.of("DATA of another form than is said are of another kind.", Promise06BuiltinsTest::kinds);
        Check.end();
    }

    private static void due(int builtin, long a, long b, long want) {
        Lab.dueInteger("BUILTIN " + builtin + " of " + a + ", " + b, Term.fn(builtin, Term.i(a), Term.i(b)), want);
    }

    private static void none(int builtin, long a, long b) {
        Lab.due("BUILTIN " + builtin + " of " + a + ", " + b, Term.fn(builtin, Term.i(a), Term.i(b)), NO_RESULT, 8, 2, -1);
    }

    private static void sums() {
        due(0, 2, 3, 5);
        due(0, MOST, LEAST, -1);
        due(0, LEAST, MOST, -1);
        due(0, MOST, 0, MOST);
        due(0, MOST - 1, 1, MOST);
        due(0, LEAST + 1, -1, LEAST);
        due(0, LEAST, 0, LEAST);
        none(0, MOST, 1);
        none(0, 1, MOST);
        none(0, MOST, MOST);
        none(0, LEAST, -1);
        none(0, -1, LEAST);
        none(0, LEAST, LEAST);
        due(1, 2, 3, -1);
        due(1, -1, LEAST, MOST);
        due(1, -1, MOST, LEAST);
        due(1, LEAST, LEAST, 0);
        due(1, LEAST + 1, 1, LEAST);
        due(1, MOST - 1, -1, MOST);
        none(1, 0, LEAST);
        none(1, LEAST, 1);
        none(1, -2, MOST);
        none(1, MOST, -1);
        none(1, MOST, LEAST);
        none(1, LEAST, MOST);
    }

    private static void products() {
        due(2, 6, -7, -42);
        due(2, 0, LEAST, 0);
        due(2, LEAST, 0, 0);
        due(2, LEAST, 1, LEAST);
        due(2, 1, LEAST, LEAST);
        due(2, MOST, -1, -MOST);
        due(2, -1, MOST, -MOST);
        due(2, 1L << 31, 1L << 31, 1L << 62);
        due(2, -(1L << 32), 1L << 31, LEAST);
        due(2, 3037000499L, 3037000499L, 3037000499L * 3037000499L);
        due(2, LEAST / 2, 2, LEAST);
        none(2, LEAST, -1);
        none(2, -1, LEAST);
        none(2, 1L << 32, 1L << 31);
        none(2, MOST, 2);
        none(2, LEAST, 2);
        none(2, LEAST, LEAST);
        none(2, LEAST / 2, -2);
        none(2, 3037000500L, 3037000500L);
        none(2, 1L << 32, 1L << 32);
    }

    private static void divisions() {
        long[][] rows = {
            // a, b, rounded down: quotient, remainder; towards 0: quotient, remainder
            {7, 2, 3, 1, 3, 1}, {-7, 2, -4, 1, -3, -1}, {7, -2, -4, -1, -3, 1}, {-7, -2, 3, -1, 3, -1},
            {6, 3, 2, 0, 2, 0}, {-6, 3, -2, 0, -2, 0}, {6, -3, -2, 0, -2, 0}, {-6, -3, 2, 0, 2, 0},
            {0, -5, 0, 0, 0, 0}, {1, -5, -1, -4, 0, 1}, {-1, 5, -1, 4, 0, -1}, {LEAST, 1, LEAST, 0, LEAST, 0},
            {LEAST, 2, LEAST / 2, 0, LEAST / 2, 0}, {LEAST, MOST, -2, MOST - 1, -1, -1},
            {MOST, LEAST, -1, -1, 0, MOST}, {MOST, -1, -MOST, 0, -MOST, 0}, {1, LEAST, -1, LEAST + 1, 0, 1},
            {LEAST, LEAST, 1, 0, 1, 0}, {LEAST + 1, -1, MOST, 0, MOST, 0}};
        for (long[] row : rows) {
            for (int k = 0; k < 4; k++) {
                due(3 + k, row[0], row[1], row[2 + k]);
            }
        }
    }

    private static void noQuotient() {
        for (int builtin = 3; builtin <= 6; builtin++) {
            none(builtin, 5, 0);
            none(builtin, 0, 0);
            none(builtin, LEAST, 0);
        }
        none(3, LEAST, -1);
        none(5, LEAST, -1);
        due(4, LEAST, -1, 0);
        due(6, LEAST, -1, 0);
    }

    private static void comparisons() {
        long[] numbers = {LEAST, LEAST + 1, -1, 0, 1, MOST - 1, MOST};
        for (long a : numbers) {
            for (long b : numbers) {
                Lab.dueTruth(a + " = " + b, Term.fn(7, Term.i(a), Term.i(b)), a == b);
                Lab.dueTruth(a + " < " + b, Term.fn(8, Term.i(a), Term.i(b)), a < b);
                Lab.dueTruth(a + " <= " + b, Term.fn(9, Term.i(a), Term.i(b)), a <= b);
            }
        }
    }

    private static void joined() {
        Lab.dueBytes("one behind the other", Term.fn(10, Term.s(1, 2), Term.s(255)), 1, 2, 255);
        Lab.dueBytes("nothing behind nothing", Term.fn(10, Term.s(), Term.s()));
        Lab.dueBytes("nothing behind one", Term.fn(10, Term.s(9), Term.s()), 9);
        Lab.dueBytes("one behind nothing", Term.fn(10, Term.s(), Term.s(9)), 9);
        for (int[] pair : new int[][] {{32, 32}, {31, 33}, {64, 0}, {0, 64}, {1, 63}, {63, 1}}) {
            Lab.dueInteger("64 of them", Term.fn(11, Term.fn(10, Term.ss(pair[0]), Term.ss(pair[1]))), 64);
        }
        for (int[] pair : new int[][] {{32, 33}, {64, 1}, {1, 64}, {64, 64}}) {
            Lab.dueAnswer("more than 64", Term.fn(10, Term.ss(pair[0]), Term.ss(pair[1])), NO_RESULT);
        }
        for (int many : new int[] {0, 1, 63, 64}) {
            Lab.dueInteger("how many", Term.fn(11, Term.ss(many)), many);
        }
    }

    private static void byteAt() {
        Lab.dueInteger("byte 0", Term.fn(12, Term.s(200, 5), Term.i(0)), 200);
        Lab.dueInteger("byte 1", Term.fn(12, Term.s(200, 255), Term.i(1)), 255);
        Lab.dueInteger("a byte 0", Term.fn(12, Term.s(0), Term.i(0)), 0);
        Lab.dueInteger("a byte 127", Term.fn(12, Term.s(127), Term.i(0)), 127);
        Lab.dueInteger("a byte 128", Term.fn(12, Term.s(128), Term.i(0)), 128);
        for (long i : new long[] {-1, 2, 3, 1L << 32, LEAST, MOST}) {
            Lab.dueAnswer("byte " + i + " of two", Term.fn(12, Term.s(200, 5), Term.i(i)), NO_RESULT);
        }
        Lab.dueInteger("byte 63 of 64", Term.fn(12, Term.ss(64), Term.i(63)), 7);
        Lab.dueAnswer("byte 64 of 64", Term.fn(12, Term.ss(64), Term.i(64)), NO_RESULT);
        Lab.dueAnswer("byte 0 of none", Term.fn(12, Term.s(), Term.i(0)), NO_RESULT);
        // What lies behind a slice is none of it.
        Term slice = Term.fn(13, Term.i(1), Term.i(2), Term.s(10, 11, 12, 13));
        Lab.dueInteger("byte 1 of a slice", Term.fn(12, slice, Term.i(1)), 12);
        Lab.dueAnswer("byte 2 of a slice", Term.fn(12, slice, Term.i(2)), NO_RESULT);
        Lab.dueAnswer("byte -1 of a slice", Term.fn(12, slice, Term.i(-1)), NO_RESULT);
    }

    private static void dueSlice(long from, long many, int... want) {
        Lab.dueBytes(many + " from " + from + " on",
                Term.fn(13, Term.i(from), Term.i(many), Term.s(10, 11, 12, 13)), want);
    }

    private static void slices() {
        dueSlice(0, 4, 10, 11, 12, 13);
        dueSlice(0, 3, 10, 11, 12);
        dueSlice(0, 5, 10, 11, 12, 13);
        dueSlice(1, 2, 11, 12);
        dueSlice(1, 3, 11, 12, 13);
        dueSlice(1, 4, 11, 12, 13);
        dueSlice(3, 1, 13);
        dueSlice(3, MOST, 13);
        dueSlice(4, 1);
        dueSlice(5, 1);
        dueSlice(MOST, MOST);
        dueSlice(MOST, 1);
        dueSlice(1, MOST, 11, 12, 13);
        dueSlice(-1, 2, 10, 11);
        dueSlice(-1, 0);
        dueSlice(LEAST, MOST, 10, 11, 12, 13);
        dueSlice(0, 0);
        dueSlice(0, -1);
        dueSlice(0, LEAST);
        dueSlice(2, 0);
        dueSlice(-1, -1);
        dueSlice((1L << 32) + 1, 2);
        dueSlice(1, 1L << 32, 11, 12, 13);
        dueSlice(1, (1L << 32) + 1, 11, 12, 13);
        Lab.dueBytes("of none", Term.fn(13, Term.i(0), Term.i(1), Term.s()));
    }

    private static void comparedBytes() {
        int[][] rows = {{}, {0}, {0, 0}, {0, 255}, {1}, {127}, {128}, {255}, {128, 1}, {128, 0}};
        for (int[] a : rows) {
            for (int[] b : rows) {
                boolean isLess = Arrays.compare(a, b) < 0;
                Lab.dueTruth("equal", Term.fn(14, Term.s(a), Term.s(b)), Arrays.equals(a, b));
                Lab.dueTruth("less", Term.fn(15, Term.s(a), Term.s(b)), isLess);
            }
        }
        int[] long0 = new int[64];
        int[] long1 = long0.clone();
        long1[63] = 1;
        Lab.dueTruth("64 bytes", Term.fn(15, Term.s(long0), Term.s(long1)), true);
        Lab.dueTruth("64 bytes", Term.fn(15, Term.s(long1), Term.s(long0)), false);
        Lab.dueTruth("64 bytes", Term.fn(14, Term.s(long1), Term.s(long0)), false);
        Lab.dueTruth("64 bytes", Term.fn(14, Term.s(long1), Term.s(long1)), true);
        Lab.dueTruth("63 of 64 bytes", Term.fn(15, Term.ss(63), Term.ss(64)), true);
    }

    private static void choice() {
        Lab.dueInteger("the first", Term.fn(16, Term.t(1), Term.i(5), Term.unit()), 5);
        Lab.dueInteger("the second", Term.fn(16, Term.t(0), Term.unit(), Term.i(6)), 6);
        Lab.dueInteger("a FUNCTION", Term.app(Term.fn(16, Term.t(1), Term.lam(Term.v(1)), Term.unit()), Term.i(7)), 7);
        Lab.dueAnswer("both are EVALUATED", Term.fn(16, Term.t(1), Term.i(5), Term.error()), 1);
        Lab.dueAnswer("both are EVALUATED", Term.fn(16, Term.t(0), Term.error(), Term.i(5)), 1);
        Lab.dueAnswer("of an INTEGER", Term.fn(16, Term.i(1), Term.i(5), Term.i(5)), WRONG_KIND);
    }

    private static void dueSame(Data one, Data other, boolean want) {
        Lab.dueTruth("equal DATA", Term.fn(17, Term.make(one), Term.make(other)), want);
        Lab.dueTruth("equal DATA", Term.fn(17, Term.make(other), Term.make(one)), want);
        Check.due("equal to the REDEEMER", Lab.accepts(Term.fn(17, Term.make(one), Term.v(2)), other), want);
    }

    private static void dataEqual() {
        Data[] rows = {Data.i(0), Data.i(1), Data.i(-1), Data.b(), Data.b(0), Data.b(1), Data.l(), Data.m(), Data.c(0),
            Data.c(1), Data.l(Data.i(0)), Data.l(Data.l(), Data.l()), Data.l(Data.l(Data.l())),
            Data.m(Data.i(0), Data.i(1)), Data.l(Data.i(0), Data.i(1)), Data.c(0, Data.i(0), Data.i(1)),
            Data.m(Data.i(1), Data.i(0)), Data.c(1, Data.i(0), Data.i(1)), Data.l(Data.i(0), Data.i(1), Data.i(0)),
            Data.l(Data.b(1, 2), Data.b(3)), Data.l(Data.b(1), Data.b(2, 3)), Data.l(Data.b(1, 2), Data.b(4)),
            Data.l(Data.l(Data.i(0)), Data.i(1)), Data.l(Data.l(Data.i(0), Data.i(1)))};
        for (int a = 0; a < rows.length; a++) {
            for (int b = a; b < rows.length; b++) {
                dueSame(rows[a], rows[b], a == b);
            }
        }
    }

    private static void forms() {
        Lab.dueInteger("CONSTRUCTOR", Term.fn(18, Term.make(Data.c(5))), 0);
        Lab.dueInteger("MAP", Term.fn(18, Term.make(Data.m())), 1);
        Lab.dueInteger("LIST", Term.fn(18, Term.empty()), 2);
        Lab.dueInteger("INTEGER", Term.fn(18, Term.make(Data.i(0))), 3);
        Lab.dueInteger("BYTES", Term.fn(18, Term.make(Data.b())), 4);
        Data[] read = {Data.c(0), Data.m(), Data.l(), Data.i(-1), Data.b(1)};
        for (int form = 0; form < read.length; form++) {
            Check.due("as REDEEMER", Lab.accepts(Term.fn(7, Term.fn(18, Term.v(2)), Term.i(form)), read[form]), true);
        }
    }

    private static void toAndFromData() {
        for (long number : new long[] {LEAST, -1, 0, 1, MOST}) {
            Lab.dueData("to DATA", Term.fn(22, Term.i(number)), Data.i(number));
            Lab.dueInteger("from DATA", Term.fn(24, Term.fn(22, Term.i(number))), number);
        }
        Lab.dueData("to DATA", Term.fn(23, Term.s(1, 255)), Data.b(1, 255));
        Lab.dueData("none to DATA", Term.fn(23, Term.s()), Data.b());
        Lab.dueData("64 to DATA", Term.fn(23, Term.ss(64)), Data.bs(64));
        Lab.dueBytes("from DATA", Term.fn(25, Term.fn(23, Term.s(1, 255))), 1, 255);
        Lab.dueBytes("none from DATA", Term.fn(25, Term.fn(23, Term.s())));
        Lab.dueBytes("from a slice's DATA",
                Term.fn(25, Term.fn(23, Term.fn(13, Term.i(1), Term.i(2), Term.s(9, 8, 7, 6)))), 8, 7);
    }

    private static void constructors() {
        Data fields = Data.l(Data.i(4), Data.b(5), Data.l(Data.i(6)));
        for (int number : new int[] {0, 6, 7, 127}) {
            Data data = Data.c(number, fields.parts());
            Lab.dueInteger("its number", Term.fn(19, Term.make(data)), number);
            Lab.dueData("its fields", Term.fn(20, Term.make(data)), fields);
            Check.due("of the REDEEMER", Lab.accepts(Term.fn(17, Term.fn(20, Term.v(2)), Term.make(fields)), data), true);
        }
        Lab.dueData("no fields", Term.fn(20, Term.make(Data.c(3))), Data.l());
    }

    private static void madeConstructors() {
        Data fields = Data.l(Data.i(4), Data.b(5), Data.l(Data.i(6)));
        for (int number : new int[] {0, 1, 6, 7, 126, 127}) {
            Lab.dueData("CONSTRUCTOR " + number, Term.fn(21, Term.i(number), Term.make(fields)),
                    Data.c(number, fields.parts()));
            Lab.dueData("without fields", Term.fn(21, Term.i(number), Term.empty()), Data.c(number));
        }
        for (long number : new long[] {-1, 128, 129, 255, 256, 1L << 32, LEAST, MOST}) {
            Lab.dueAnswer("CONSTRUCTOR " + number, Term.fn(21, Term.i(number), Term.empty()), NO_RESULT);
        }
        // A LIST of 200 NODES and one of DEPTH 12 do.
        Lab.dueAnswer("200 NODES", Term.fn(21, Term.i(127), twoHundred()), Data.wide(100), 0);
        Lab.dueAnswer("DEPTH 12", Term.fn(21, Term.i(0), deeper(4)), Data.deep(8), 0);
    }

    /** A LIST of 200 NODES, with a REDEEMER of 100. */
    private static Term twoHundred() {
        return Term.fn(28, Term.v(2), Term.v(2));
    }

    /** The REDEEMER in so many LISTS. */
    private static Term deeper(int lists) {
        return lists == 0 ? Term.v(2) : Term.fn(28, deeper(lists - 1), Term.empty());
    }

    private static void lists() {
        Data list = Data.l(Data.c(1, Data.i(2), Data.i(3)), Data.m(Data.i(4), Data.b(5)), Data.i(6));
        Lab.dueData("the first", Term.fn(26, Term.make(list)), list.parts().get(0));
        Lab.dueData("the others", Term.fn(27, Term.make(list)), Data.l(list.parts().subList(1, 3)));
        Lab.dueData("the first of one", Term.fn(26, Term.make(Data.l(Data.l(Data.i(1))))), Data.l(Data.i(1)));
        Lab.dueData("the others of one", Term.fn(27, Term.make(Data.l(Data.l(Data.i(1))))), Data.l());
        Lab.dueData("the second", Term.fn(26, Term.fn(27, Term.make(list))), list.parts().get(1));
        Lab.dueData("the third", Term.fn(26, Term.fn(27, Term.fn(27, Term.make(list)))), list.parts().get(2));
        Lab.due("the first of none", Term.fn(26, Term.empty()), NO_RESULT, 5, 1, -1);
        Lab.due("the others of none", Term.fn(27, Term.empty()), NO_RESULT, 5, 1, -1);
        Lab.dueAnswer("a third of two", Term.fn(26, Term.fn(27, Term.fn(27, Term.make(Data.l(Data.i(1), Data.i(2)))))),
                NO_RESULT);
        Lab.dueAnswer("the others of 200 NODES", Term.fn(27, twoHundred()), Data.wide(100), 0);
    }

    private static void ahead() {
        Data list = Data.l(Data.c(1, Data.i(2), Data.i(3)), Data.m(Data.i(4), Data.b(5)), Data.i(6));
        Lab.dueData("that ahead", Term.fn(28, Term.make(Data.l(Data.i(7))), Term.make(list)),
                Data.l(Data.l(Data.i(7)), list.parts().get(0), list.parts().get(1), list.parts().get(2)));
        Lab.dueData("ahead of none", Term.fn(28, Term.make(Data.b(1)), Term.empty()), Data.l(Data.b(1)));
        Lab.dueData("EMPTY ahead of none", Term.fn(28, Term.empty(), Term.empty()), Data.l(Data.l()));
    }

    private static void tooLarge() {
        Term redeemer = Term.v(2);
        Lab.dueAnswer("100 NODES and 100", twoHundred(), Data.wide(100), 0);
        Lab.dueAnswer("101 NODES and 101", twoHundred(), Data.wide(101), NO_RESULT);
        Data both = Data.l(Data.wide(100), Data.wide(50));
        Term hundred = Term.fn(26, redeemer);
        Term fifty = Term.fn(26, Term.fn(27, redeemer));
        Term hundredFifty = Term.fn(28, fifty, hundred);
        Lab.dueAnswer("50 NODES and 150", Term.fn(28, fifty, hundredFifty), both, 0);
        Lab.dueAnswer("150 NODES and 50", Term.fn(28, hundredFifty, fifty), both, 0);
        Lab.dueAnswer("51 NODES and 150", Term.fn(28, Term.fn(28, Term.make(Data.i(0)), fifty), hundredFifty), both,
                NO_RESULT);
        Lab.dueAnswer("50 NODES and 151", Term.fn(28, fifty, Term.fn(28, Term.make(Data.i(0)), hundredFifty)), both,
                NO_RESULT);
        Lab.dueAnswer("an INTEGER ahead of 200 NODES", Term.fn(28, Term.make(Data.i(0)), twoHundred()), Data.wide(100),
                NO_RESULT);
        Lab.dueAnswer("200 NODES ahead of none", Term.fn(28, twoHundred(), Term.empty()), Data.wide(100), NO_RESULT);
        Lab.dueAnswer("an INTEGER ahead of 199 NODES", Term.fn(28, Term.make(Data.i(0)), Term.fn(27, twoHundred())),
                Data.wide(100), 0);
    }

    private static void tooDeep() {
        for (int lists = 1; lists <= 5; lists++) {
            Lab.dueAnswer("DEPTH " + (8 + lists), deeper(lists), Data.deep(8), lists <= 4 ? 0 : NO_RESULT);
        }
        Lab.dueAnswer("an INTEGER ahead of DEPTH 12", Term.fn(28, Term.make(Data.i(0)), deeper(4)), Data.deep(8), 0);
        Lab.dueAnswer("DEPTH 11 ahead of DEPTH 12", Term.fn(28, deeper(3), deeper(4)), Data.deep(8), 0);
        Lab.dueAnswer("DEPTH 12 ahead of DEPTH 12", Term.fn(28, deeper(4), deeper(4)), Data.deep(8), NO_RESULT);
        Lab.dueAnswer("DEPTH 12 ahead of an INTEGER", Term.fn(28, deeper(4), Term.make(Data.l(Data.i(0)))), Data.deep(8),
                NO_RESULT);
        // The deepest is not the first, nor the last.
        Data mixed = Data.l(Data.i(1), Data.l(Data.l(), Data.deep(7)), Data.i(2));
        Check.due("DEPTH", mixed.depth(), 9);
        Lab.dueAnswer("DEPTH 12, in the midst", deeper(3), mixed, 0);
        Lab.dueAnswer("DEPTH 13, in the midst", deeper(4), mixed, NO_RESULT);
    }

    private static void isEmpty() {
        Lab.dueTruth("EMPTY", Term.fn(29, Term.empty()), true);
        Lab.dueTruth("the others of one", Term.fn(29, Term.fn(27, Term.make(Data.l(Data.i(1))))), true);
        Lab.dueTruth("not EMPTY", Term.fn(29, Term.make(Data.l(Data.l()))), false);
        Check.due("as REDEEMER", Lab.accepts(Term.fn(29, Term.v(2)), Data.l()), true);
        Check.due("not as REDEEMER", Lab.accepts(Term.fn(29, Term.v(2)), Data.l(Data.l())), false);
    }

    private static void maps() {
        Data list = Data.l(Data.i(1), Data.l(Data.i(2)), Data.i(1), Data.b(3));
        Lab.dueData("a MAP", Term.fn(30, Term.make(list)), Data.m(list.parts()));
        Lab.dueData("a MAP of none", Term.fn(30, Term.empty()), Data.m());
        Lab.dueData("a MAP of one pair", Term.fn(30, Term.make(Data.l(Data.l(), Data.b()))), Data.m(Data.l(), Data.b()));
        Lab.due("of an odd number", Term.fn(30, Term.v(2)), Data.l(Data.i(1)), NO_RESULT, 3 + 2 + 1, 1, -1);
        Lab.dueAnswer("of three", Term.fn(30, Term.make(Data.l(Data.i(1), Data.i(2), Data.i(3)))), NO_RESULT);
        // What is there at once counts, not what is within it.
        Lab.dueAnswer("of one with two", Term.fn(30, Term.make(Data.l(Data.l(Data.i(1), Data.i(2))))), NO_RESULT);
        Lab.dueAnswer("of two with one", Term.fn(30, Term.make(Data.l(Data.l(Data.i(1)), Data.i(2)))), 0);
        Lab.dueAnswer("of 199 in 200 NODES", Term.fn(30, Term.fn(28, Term.make(Data.i(0)), Term.v(2))), Data.wide(150), 0);
    }

    private static void listsOfMaps() {
        Data list = Data.l(Data.i(1), Data.l(Data.i(2)), Data.i(1), Data.b(3));
        Data map = Data.m(list.parts());
        Lab.dueData("its keys and values", Term.fn(31, Term.make(map)), list);
        Lab.dueData("of none", Term.fn(31, Term.make(Data.m())), Data.l());
        Check.due("of a MAP that was read", Lab.accepts(Term.fn(17, Term.fn(30, Term.fn(31, Term.v(2))), Term.v(2)), map),
                true);
        Term first = Term.fn(26, Term.fn(31, Term.v(2)));
        Check.due("its first key", Lab.accepts(Term.fn(17, first, Term.make(Data.b(7))), Data.m(Data.b(7), Data.i(2))), true);
    }

    /** Each VALUE of each BUILTIN, of every kind. */
    private static void kinds() {
        String[] takes = {"ii", "ii", "ii", "ii", "ii", "ii", "ii", "ii", "ii", "ii", "ss", "s", "si", "iis", "ss", "ss",
            "tvv", "dd", "d", "c", "c", "il", "i", "s", "I", "S", "l", "l", "dl", "l", "l", "m"};
        String letters = "istuDlmcISfzb";
        for (int builtin = 0; builtin < 32; builtin++) {
            for (int place = 0; place < takes[builtin].length(); place++) {
                for (char letter : letters.toCharArray()) {
                    Term[] given = new Term[takes[builtin].length()];
                    for (int k = 0; k < given.length; k++) {
                        given[k] = value(k == place ? letter : takes[builtin].charAt(k));
                    }
                    boolean fits = fits(takes[builtin].charAt(place), letter);
                    Lab.dueAnswer("BUILTIN " + builtin + " with " + letter + " at " + place, Term.fn(builtin, given),
                            fits ? 0 : WRONG_KIND);
                }
            }
        }
    }

    private static boolean fits(char taken, char letter) {
        return taken == letter || taken == 'v' || taken == 'd' && "DlmcIS".indexOf(letter) >= 0
                || taken == 'l' && letter == 'D';
    }

    private static Term value(char letter) {
        switch (letter) {
            case 'i': return Term.i(1);
            case 's': return Term.s(1, 2);
            case 't': return Term.t(1);
            case 'u': return Term.unit();
            case 'm': return Term.make(Data.m(Data.i(1), Data.i(2)));
            case 'c': return Term.make(Data.c(0, Data.i(1)));
            case 'I': return Term.make(Data.i(1));
            case 'S': return Term.make(Data.b(1));
            case 'f': return Term.lam(Term.v(1));
            case 'z': return Term.delay(Term.unit());
            case 'b': return Term.fn(0);
            default: return Term.make(Data.l(Data.i(1), Data.i(2)));
        }
    }
}
