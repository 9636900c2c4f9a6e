import java.io.ByteArrayOutputStream;
import java.math.BigInteger;

/** Promise 6, VERDICTS 1 to 6: READING DATA, and the places of its faults. */
public final class Promise06ReadingTest {
    private static final BigInteger TWO = BigInteger.TWO;
    private static final int[] KINDS = {0, 1, 2, 4, 5, 6};

    public static void main(String[] args) {
        Edge.of("(an empty one has fault 1)", Promise06ReadingTest::empty);
        Edge.of("1: the TAPE ends where a byte is to be read (the place is how many bytes it has).",
                Promise06ReadingTest::ends);
        Edge.of("an INTEGER (a long)", Promise06ReadingTest::integers);
        Edge.of("BYTES, 0 to 64", Promise06ReadingTest::bytes);
        Edge.of("(in their order, the same key as often as one likes)", Promise06ReadingTest::maps);
        Edge.of("a CONSTRUCTOR with a number 0 .. 127", Promise06ReadingTest::constructors);
        Edge.of("if n is below 7, else 1273 + n", Promise06ReadingTest::numbersOfConstructors);
        Edge.of("An INTEGER v: a HEAD of kind 0 and v, or below 0 of kind 1 and -1 - v.", Promise06ReadingTest::bytesByHand);
        Edge.of("if that is below 24; else a byte 32 * kind + 24, 25, 26 or 27", Promise06ReadingTest::heads);
        Edge.of("2: the number of a HEAD is in more bytes than it needs.", Promise06ReadingTest::tooManyBytes);
        Edge.of("its byte has the lowest five bits 28 .. 31, its kind is 3 or 7", Promise06ReadingTest::wrongFirstBytes);
        Edge.of("a number of kind 0 or 1 is above 2^63 - 1", Promise06ReadingTest::integersTooLarge);
        Edge.of("of kind 2 above 64", Promise06ReadingTest::tooManyOfBytes);
        Edge.of("of kind 6 neither 121 .. 127 nor 1280 .. 1400", Promise06ReadingTest::wrongConstructors);
        Edge.of("or what follows this is no HEAD of kind 4 (the place is that one's)", Promise06ReadingTest::whatFollows);
        Edge.of("Its DEPTH is 1, or 1 more than the greatest of what is within it at once: at most 12.",
                Promise06ReadingTest::depth);
        Edge.of("4: the DEPTH would be above 12.", Promise06ReadingTest::tooDeep);
        Edge.of("are its NODES: at most 200.", Promise06ReadingTest::nodes);
        Edge.of("5: there would be more than 200 NODES.", Promise06ReadingTest::tooManyNodes);
        Edge.of("The place of 2 to 5 is the first byte of the HEAD.", Promise06ReadingTest::places);
        Edge.of("3 for its lowest five bits or kind (as soon as its first byte is read), 1 for its number, 2, 3 for its"
                + " number", Promise06ReadingTest::orderWithinAHead);
        Edge.of("(but for that which follows a HEAD of kind 6) 4, 5: a NODE is seen with its HEAD",
                Promise06ReadingTest::orderOfNodes);
        Edge.of("the first FAULT that is seen ends it", Promise06ReadingTest::firstFault);
        Edge.of("6: bytes are left behind.", Promise06ReadingTest::bytesLeft);
        Edge.of("READING DATA from the TAPE's beginning", Promise06ReadingTest::nothingIsKept);
        Check.end();
    }

    private static Bench used() {
        Bench bench = new Bench(1).endow(1, 1, 50);
        bench.register(9, 1);
        return bench;
    }

    private static void due(String what, int verdict, int place, byte[] bytes) {
        Refused.dueTape(what, Promise06ReadingTest::used, bytes, verdict, place);
    }

    private static void due(String what, int verdict, int place, int... bytes) {
        due(what, verdict, place, Data.b(bytes).bytes());
    }

    /** Read to its end, it is no TRANSACTION. */
    private static void isRead(String what, byte[] bytes) {
        due(what, 7, -1, bytes);
    }

    private static void isRead(String what, int... bytes) {
        isRead(what, Data.b(bytes).bytes());
    }

    private static byte[] head(int kind, BigInteger number) {
        ByteArrayOutputStream out = new ByteArrayOutputStream();
        Data.head(out, kind, number);
        return out.toByteArray();
    }

    /** A HEAD with its number in 1, 2, 4 or 8 bytes: low is 24 .. 27. */
    private static byte[] head(int kind, int low, BigInteger number) {
        ByteArrayOutputStream out = new ByteArrayOutputStream();
        Data.longHead(out, kind, low, number);
        return out.toByteArray();
    }

    private static void empty() {
        due("an empty TAPE", 1, 0);
        Bench bench = new Bench(1);
        Check.due("a new object: submitTape()", bench.x.submitTape(), 1);
        Check.due("once more", bench.x.submitTape(), 1);
        bench.dueLatest("once more", 1, 0, 0, -1, -1, -1, -1, 0);
        bench.dueLook("submitted", 9, 2);
    }

    private static void ends() {
        for (int kind : KINDS) {
            for (int low = 24; low <= 27; low++) {
                byte[] row = head(kind, low, TWO.pow(60));
                for (int length = 1; length < row.length; length++) {
                    due("the number of a HEAD of kind " + kind, 1, length, java.util.Arrays.copyOf(row, length));
                    due("the same, within", 1, 1 + length, Bench.join(Data.b(0x81).bytes(),
                            java.util.Arrays.copyOf(row, length)));
                }
            }
        }
        due("BYTES 1, none there", 1, 1, 0x41);
        due("BYTES 2, one there", 1, 2, 0x42, 1);
        due("BYTES 64, none there", 1, 2, 0x58, 64);
        due("BYTES 64, 63 there", 1, 65, Bench.without(Data.bs(64).encode(), 1));
        due("a LIST of 1", 1, 1, 0x81);
        due("a LIST of 2, one there", 1, 2, 0x82, 0);
        due("a MAP of 1", 1, 1, 0xA1);
        due("a key without its value", 1, 2, 0xA1, 0);
        due("a MAP of 2, one there", 1, 3, 0xA2, 0, 0);
        due("a CONSTRUCTOR without what follows", 1, 2, 0xD8, 121);
        due("a CONSTRUCTOR of 1", 1, 3, 0xD8, 121, 0x81);
        due("a CONSTRUCTOR of so many as are to be told", 1, 3, 0xD8, 121, 0x98);
        byte[] row = new Tx().in(0).back(1).pay(Tx.script(1), Tx.value(0, 0, 5000, 1, -1, 7), Data.b(1, 2, 3))
                .fee(300).mint(1, -1, 7).redeem(1, Data.c(30, Data.i(-300))).sign(1, 2).encode();
        for (int last = 1; last <= row.length; last++) {
            due("without the last " + last, 1, row.length - last, Bench.without(row, last));
        }
    }

    private static void integers() {
        isRead("2^63 - 1", Data.i(Long.MAX_VALUE).encode());
        isRead("-2^63", Data.i(Long.MIN_VALUE).encode());
        for (long number : new long[] {Long.MIN_VALUE, Long.MIN_VALUE + 1, -1, 0, Long.MAX_VALUE}) {
            // In a TERM the same number has quite other bytes.
            Lab.dueTruth("INTEGER " + number, Term.fn(17, Term.make(Data.i(number)), Term.fn(22, Term.i(number))), true);
            Lab.dueInteger("INTEGER " + number, Term.i(number), number);
        }
    }

    private static void bytes() {
        for (int many : new int[] {0, 1, 23, 24, 63, 64}) {
            isRead("BYTES " + many, Data.bs(many).encode());
            Lab.dueData("BYTES " + many, Term.fn(23, Term.ss(many)), Data.bs(many));
        }
        due("BYTES 65", 3, 0, Bench.join(head(2, BigInteger.valueOf(65)), new byte[65]));
    }

    private static void maps() {
        Data same = Data.m(Data.i(1), Data.i(2), Data.i(1), Data.i(2), Data.i(1), Data.b());
        isRead("the same key", same.encode());
        Data[] others = {Data.m(Data.i(1), Data.i(2), Data.i(1), Data.b(), Data.i(1), Data.i(2)),
            Data.m(Data.i(1), Data.i(2), Data.i(1), Data.b()),
            Data.m(Data.i(2), Data.i(1), Data.i(1), Data.i(2), Data.i(1), Data.b())};
        Term isSame = Term.fn(17, Term.make(same), Lab.REDEEMER);
        Check.due("in the same order", Lab.accepts(isSame, same), true);
        for (Data other : others) {
            Check.due("in another order", Lab.accepts(isSame, other), false);
        }
    }

    private static void dueBytes(Data data, int... want) {
        Check.due("the bytes of " + data.form() + " " + data.number(),
                java.util.Arrays.equals(data.encode(), Data.b(want).bytes()), true);
    }

    /** That the tests themselves write them as the document says. */
    private static void bytesByHand() {
        dueBytes(Data.i(0), 0);
        dueBytes(Data.i(23), 0x17);
        dueBytes(Data.i(24), 0x18, 24);
        dueBytes(Data.i(-1), 0x20);
        dueBytes(Data.i(-24), 0x37);
        dueBytes(Data.i(-25), 0x38, 24);
        dueBytes(Data.i(255), 0x18, 255);
        dueBytes(Data.i(256), 0x19, 1, 0);
        dueBytes(Data.i(-256), 0x38, 255);
        dueBytes(Data.i(-257), 0x39, 1, 0);
        dueBytes(Data.i(65536), 0x1A, 0, 1, 0, 0);
        dueBytes(Data.i(1L << 32), 0x1B, 0, 0, 0, 1, 0, 0, 0, 0);
        dueBytes(Data.i(Long.MAX_VALUE), 0x1B, 127, 255, 255, 255, 255, 255, 255, 255);
        dueBytes(Data.i(Long.MIN_VALUE), 0x3B, 127, 255, 255, 255, 255, 255, 255, 255);
        dueBytes(Data.b(), 0x40);
        dueBytes(Data.b(9, 8), 0x42, 9, 8);
        dueBytes(Data.l(), 0x80);
        dueBytes(Data.l(Data.i(1), Data.b()), 0x82, 1, 0x40);
        dueBytes(Data.m(Data.i(1), Data.i(-2)), 0xA1, 1, 0x21);
        dueBytes(Data.c(0), 0xD8, 121, 0x80);
        dueBytes(Data.c(6, Data.i(3)), 0xD8, 127, 0x81, 3);
        dueBytes(Data.c(7), 0xD9, 5, 0, 0x80);
        dueBytes(Data.c(127, Data.l()), 0xD9, 5, 0x78, 0x81, 0x80);
        for (long number : new long[] {0, 23, 24, -1, -24, -25, 255, 256, -256, -257}) {
            Lab.dueInteger("INTEGER " + number, Term.i(number), number);
        }
    }

    private static void places() {
        due("2", 2, 4, 0x83, 0, 0x41, 7, 0x18, 1);
        due("2", 2, 4, 0x83, 0, 0x41, 7, 0x1B, 0, 0, 0, 0, 255, 255, 255, 255);
        due("3 of a first byte", 3, 4, 0x83, 0, 0x41, 7, 0x1F);
        due("3 of a number", 3, 4, 0x83, 0, 0x41, 7, 0x58, 65);
        due("3 of a number of kind 6", 3, 4, 0x83, 0, 0x41, 7, 0xD9, 5, 121, 0x80);
        due("4", 4, 17, Bench.join(Data.b(0x83, 0, 0x43, 7, 7, 7).bytes(), Data.deep(13).encode()));
        due("5", 5, 204, Bench.join(Data.b(0x98, 200, 0x43, 7, 7, 7).bytes(), new byte[198], Data.i(1000).encode()));
    }

    private static void constructors() {
        for (int number : new int[] {0, 1, 5, 6, 7, 8, 126, 127}) {
            isRead("CONSTRUCTOR " + number, Data.c(number).encode());
            isRead("CONSTRUCTOR " + number + " of two", Data.c(number, Data.i(1), Data.c(number)).encode());
            Lab.dueData("CONSTRUCTOR " + number, Term.fn(21, Term.i(number), Term.empty()), Data.c(number));
        }
    }

    private static void numbersOfConstructors() {
        int[] heads = {121, 122, 126, 127, 1280, 1281, 1399, 1400};
        int[] numbers = {0, 1, 5, 6, 7, 8, 126, 127};
        for (int k = 0; k < heads.length; k++) {
            byte[] row = Bench.join(head(6, BigInteger.valueOf(heads[k])), Data.b(0x80).bytes());
            Check.due("bytes of CONSTRUCTOR " + numbers[k], java.util.Arrays.equals(row, Data.c(numbers[k]).encode()), true);
            Term number = Term.fn(7, Term.fn(19, Lab.REDEEMER), Term.i(numbers[k]));
            Check.due("a HEAD of kind 6 and " + heads[k], Lab.accepts(number, Data.c(numbers[k])), true);
        }
    }

    /** The last number of each form of a HEAD, and the first one of the next. */
    private static void heads() {
        BigInteger[] edges = {BigInteger.valueOf(24), TWO.pow(8), TWO.pow(16), TWO.pow(32)};
        int[] lengths = {1, 2, 3, 5, 9};
        for (int k = 0; k < edges.length; k++) {
            for (int kind : new int[] {0, 1}) {
                byte[] last = head(kind, edges[k].subtract(BigInteger.ONE));
                byte[] first = head(kind, edges[k]);
                Check.due("bytes", last.length, lengths[k]);
                Check.due("bytes", first.length, lengths[k + 1]);
                isRead("kind " + kind + ", below " + edges[k], last);
                isRead("kind " + kind + ", " + edges[k], first);
                long number = edges[k].longValueExact();
                long v = kind == 0 ? number : -1 - number;
                Lab.dueInteger("kind " + kind + ", " + number, Term.i(v), v);
                v = kind == 0 ? number - 1 : -number;
                Lab.dueInteger("kind " + kind + ", one less", Term.i(v), v);
            }
            // So many can't be there: the TAPE ends.
            for (int kind : new int[] {4, 5}) {
                byte[] last = head(kind, edges[k].subtract(BigInteger.ONE));
                due("kind " + kind + ", below " + edges[k], 1, last.length, last);
                byte[] first = head(kind, edges[k]);
                due("kind " + kind + ", " + edges[k], 1, first.length, first);
            }
        }
        isRead("BYTES 23", Bench.join(Data.b(0x57).bytes(), new byte[23]));
        isRead("BYTES 24", Bench.join(Data.b(0x58, 24).bytes(), new byte[24]));
        isRead("a LIST of 23", Bench.join(Data.b(0x97).bytes(), new byte[23]));
        isRead("a LIST of 24", Bench.join(Data.b(0x98, 24).bytes(), new byte[24]));
        isRead("a MAP of 23", Bench.join(Data.b(0xB7).bytes(), new byte[46]));
        isRead("a MAP of 24", Bench.join(Data.b(0xB8, 24).bytes(), new byte[48]));
        isRead("fields, 24", Bench.join(Data.b(0xD8, 121, 0x98, 24).bytes(), new byte[24]));
        due("a LIST of 2^64 - 1", 1, 10, Bench.join(head(4, TWO.pow(64).subtract(BigInteger.ONE)), new byte[1]));
        due("a MAP of 2^63", 1, 10, Bench.join(head(5, TWO.pow(63)), new byte[1]));
        due("a MAP of 2^31", 1, 6, Bench.join(head(5, TWO.pow(31)), new byte[1]));
        due("fields, 2^64 - 1", 1, 12, Bench.join(Data.b(0xD8, 121).bytes(),
                head(4, TWO.pow(64).subtract(BigInteger.ONE)), new byte[1]));
    }

    private static void tooManyBytes() {
        BigInteger[] edges = {BigInteger.valueOf(24), TWO.pow(8), TWO.pow(16), TWO.pow(32)};
        for (int kind : KINDS) {
            for (int low = 24; low <= 27; low++) {
                for (int k = 0; k <= low - 24; k++) {
                    byte[] row = head(kind, low, edges[k].subtract(BigInteger.ONE));
                    due("kind " + kind + ", below " + edges[k] + " behind " + low, 2, 0, row);
                    due("the same, within", 2, 2, Bench.join(Data.b(0x82, 0).bytes(), row));
                }
                due("kind " + kind + ", 0 behind " + low, 2, 0, head(kind, low, BigInteger.ZERO));
            }
        }
        due("121 in two bytes", 2, 0, 0xD9, 0, 121, 0x80);
        due("1280 in four bytes", 2, 0, 0xDA, 0, 0, 5, 0, 0x80);
        due("what follows kind 6: 0 in a byte of its own", 2, 2, 0xD8, 121, 0x98, 0);
        due("what follows kind 6: 23 in a byte of its own", 2, 2, 0xD8, 121, 0x98, 23);
        due("what follows kind 6: 24 in two bytes", 2, 2, 0xD8, 121, 0x99, 0, 24);
    }

    private static void wrongFirstBytes() {
        for (int first = 0; first < 256; first++) {
            int kind = first >> 5;
            boolean isWrong = (first & 31) >= 28 || kind == 3 || kind == 7;
            if (isWrong) {
                due("the byte " + first, 3, 0, first);
                due("the byte " + first + " and more", 3, 2, 0x82, 0, first, 255, 255, 255, 255, 255, 255, 255, 255, 0);
            }
        }
        due("27 of kind 0", 1, 1, 0x1B);
        due("27 of kind 4", 1, 1, 0x9B);
    }

    private static void integersTooLarge() {
        for (int kind : new int[] {0, 1}) {
            isRead("2^63 - 1 of kind " + kind, head(kind, TWO.pow(63).subtract(BigInteger.ONE)));
            for (BigInteger number : new BigInteger[] {TWO.pow(63), TWO.pow(63).add(BigInteger.ONE),
                TWO.pow(64).subtract(BigInteger.ONE)}) {
                due(number + " of kind " + kind, 3, 0, head(kind, number));
                due("the same, within", 3, 1, Bench.join(Data.b(0x81).bytes(), head(kind, number)));
            }
        }
    }

    private static void tooManyOfBytes() {
        isRead("BYTES 64", Data.bs(64).encode());
        for (BigInteger number : new BigInteger[] {BigInteger.valueOf(65), BigInteger.valueOf(128), TWO.pow(8),
            TWO.pow(16), TWO.pow(31), TWO.pow(32), TWO.pow(32).add(BigInteger.ONE), TWO.pow(63),
            TWO.pow(64).subtract(BigInteger.ONE)}) {
            due("BYTES " + number, 3, 0, Bench.join(head(2, number), new byte[70]));
            due("BYTES " + number + " within", 3, 1, Bench.join(Data.b(0x81).bytes(), head(2, number)));
        }
    }

    private static void wrongConstructors() {
        BigInteger[] wrong = {BigInteger.ZERO, BigInteger.valueOf(23), BigInteger.valueOf(24), BigInteger.valueOf(120),
            BigInteger.valueOf(128), BigInteger.valueOf(255), TWO.pow(8), BigInteger.valueOf(1279),
            BigInteger.valueOf(1401), TWO.pow(16), TWO.pow(16).add(BigInteger.valueOf(121)),
            TWO.pow(32).add(BigInteger.valueOf(121)), TWO.pow(63).add(BigInteger.valueOf(121)),
            TWO.pow(64).subtract(BigInteger.ONE)};
        for (BigInteger number : wrong) {
            byte[] row = Bench.join(head(6, number), Data.b(0x80).bytes());
            due("kind 6 and " + number, 3, 0, row);
            due("kind 6 and " + number + " within", 3, 1, Bench.join(Data.b(0x81).bytes(), row));
        }
        for (int number : new int[] {121, 127, 1280, 1400}) {
            isRead("kind 6 and " + number, Bench.join(head(6, BigInteger.valueOf(number)), Data.b(0x80).bytes()));
        }
    }

    private static void whatFollows() {
        for (int kind : new int[] {0, 1, 2, 3, 5, 6, 7}) {
            due("kind " + kind + " behind kind 6", 3, 2, 0xD8, 121, 32 * kind, 0x80);
            due("kind " + kind + " behind kind 6, its number to come", 3, 2, 0xD8, 121, 32 * kind + 24);
            due("kind " + kind + " behind kind 6 and 1280", 3, 4, 0x81, 0xD9, 5, 0, 32 * kind + 1, 0);
        }
        for (int low = 28; low < 32; low++) {
            due(low + " behind kind 6", 3, 2, 0xD8, 121, 0x80 + low);
        }
        due("a CONSTRUCTOR behind kind 6", 3, 2, 0xD8, 121, 0xD8, 121, 0x80);
        isRead("a LIST of one, a CONSTRUCTOR", 0xD8, 121, 0x81, 0xD8, 121, 0x80);
    }

    /** So many of one form within one another, and at last some DATA. */
    private static Data nested(int form, int many, Data inmost) {
        Data data = inmost;
        for (int k = 0; k < many; k++) {
            switch (form) {
                case 0: data = Data.l(data); break;
                case 1: data = Data.m(data, Data.i(0)); break;
                case 2: data = Data.m(Data.i(0), data); break;
                case 3: data = Data.c(1, data); break;
                default: data = Data.l(Data.i(0), data, Data.b()); break;
            }
        }
        return data;
    }

    private static final Data[] INMOST = {Data.i(0), Data.i(-1), Data.b(), Data.b(1), Data.l(), Data.m(), Data.c(0), Data.c(9)};

    private static void depth() {
        for (int form = 0; form < 5; form++) {
            for (Data inmost : INMOST) {
                isRead("DEPTH 12, form " + form, nested(form, 11, inmost).encode());
                isRead("DEPTH 11, form " + form, nested(form, 10, inmost).encode());
            }
        }
        isRead("DEPTH 12 twice", Data.l(Data.deep(11), Data.deep(11), Data.i(1)).encode());
        isRead("DEPTH 12 of each form", nested(0, 2, nested(1, 2, nested(2, 3, nested(3, 4, Data.i(0))))).encode());
    }

    private static void tooDeep() {
        for (int form = 0; form < 5; form++) {
            // Behind 12 HEADS; in two of the forms an INTEGER 0 is ahead of what is nested, and is at DEPTH 13 itself.
            int place = new int[] {12, 12, 2 * 11 + 1, 3 * 12, 2 * 11 + 1}[form];
            for (Data inmost : INMOST) {
                due("DEPTH 13, form " + form, 4, place, nested(form, 12, inmost).encode());
            }
        }
        due("DEPTH 14", 4, 12, Data.deep(14).encode());
        due("DEPTH 13 behind others", 4, 14, Data.l(Data.i(1), Data.i(2), Data.deep(12)).encode());
        due("DEPTH 13 behind DEPTH 12", 4, 23, Data.l(Data.deep(11), Data.deep(12)).encode());
    }

    private static void nodes() {
        isRead("199 NODES", Data.wide(199).encode());
        isRead("200 NODES", Data.wide(200).encode());
        isRead("a MAP of 99 pairs", Bench.join(Data.b(0xB8, 99).bytes(), new byte[198]));
        isRead("a CONSTRUCTOR of 199", Data.c(0, Data.wide(200).parts()).encode());
        isRead("100 and 99 and itself", Data.l(Data.wide(100), Data.wide(99)).encode());
    }

    private static void tooManyNodes() {
        due("201 NODES", 5, 201, Data.wide(201).encode());
        due("202 NODES", 5, 201, Data.wide(202).encode());
        due("a MAP of 100 pairs", 5, 201, Bench.join(Data.b(0xB8, 100).bytes(), new byte[200]));
        due("a CONSTRUCTOR of 200", 5, 203, Data.c(0, Data.wide(201).parts()).encode());
        due("100 and 100 and itself", 5, 202, Data.l(Data.wide(100), Data.wide(100)).encode());
        for (Data last : INMOST) {
            due("the 201st of each form", 5, 201, Bench.join(Data.b(0x98, 200).bytes(), new byte[199], last.encode()));
        }
        for (BigInteger many : new BigInteger[] {TWO.pow(64).subtract(BigInteger.ONE), TWO.pow(63), TWO.pow(32)}) {
            due("a LIST of " + many + " that goes on", 5, 208, Bench.join(head(4, many), new byte[300]));
            due("a MAP of " + many + " that goes on", 5, 208, Bench.join(head(5, many), new byte[300]));
        }
        due("a LIST of 255 that goes on", 5, 201, Bench.join(Data.b(0x98, 255).bytes(), new byte[255]));
        due("a LIST of 200, 199 there", 1, 201, Bench.join(Data.b(0x98, 200).bytes(), new byte[199]));
    }

    private static void orderWithinAHead() {
        due("the kind before the end", 3, 0, 0x78);
        due("the lowest bits before the end", 3, 0, 0x1C);
        due("the end of the number before 2", 1, 1, 0xB8);
        due("the end of the number before 2", 1, 2, 0x19, 0);
        due("the end of the number before 3", 1, 8, 0x5B, 255, 255, 255, 255, 255, 255, 255);
        due("2 before 3 of the number: kind 6 and 1", 2, 0, 0xD8, 1);
        due("2 before 3 of the number: kind 6 and 255", 2, 0, 0xD9, 0, 255);
        due("2 before 3 of the number: BYTES 200", 2, 0, 0x59, 0, 200);
        due("3 of the number before the end of BYTES", 3, 0, 0x58, 200);
        due("3 of the number before what follows", 3, 0, 0xD8, 120, 0);
    }

    private static byte[] atDepth13(int... bytes) {
        return Bench.join(Bench.without(Data.deep(13).encode(), 1), Data.b(bytes).bytes());
    }

    private static byte[] asThe201st(int... bytes) {
        return Bench.join(Data.b(0x98, 200).bytes(), new byte[199], Data.b(bytes).bytes());
    }

    private static void orderOfNodes() {
        due("the end before DEPTH", 1, 12, atDepth13());
        due("the end of the number before DEPTH", 1, 13, atDepth13(0x58));
        due("3 before DEPTH", 3, 12, atDepth13(0x9C));
        due("2 before DEPTH", 2, 12, atDepth13(0x18, 0));
        due("3 of the number before DEPTH", 3, 12, atDepth13(0x58, 65));
        due("3 of the number of kind 6 before DEPTH", 3, 12, atDepth13(0xD8, 120));
        due("DEPTH before what follows kind 6", 4, 12, atDepth13(0xD8, 121, 0));
        due("DEPTH before the end of what follows kind 6", 4, 12, atDepth13(0xD8, 121));
        due("DEPTH before the end of BYTES", 4, 12, atDepth13(0x42, 1));
        due("the end before NODES", 1, 201, asThe201st());
        due("the end of the number before NODES", 1, 202, asThe201st(0x18));
        due("3 before NODES", 3, 201, asThe201st(0x1C));
        due("2 before NODES", 2, 201, asThe201st(0x18, 1));
        due("3 of the number before NODES", 3, 201, asThe201st(0x58, 65));
        due("NODES before what follows kind 6", 5, 201, asThe201st(0xD8, 121, 0));
        due("NODES before the end of what follows kind 6", 5, 201, asThe201st(0xD8, 121));
        due("NODES before the end of BYTES", 5, 201, asThe201st(0x42, 1));
        // A LIST of 188 INTEGERS and LISTS within one another, of which the 12th is the 201st NODE, at DEPTH 13.
        due("DEPTH before NODES", 4, 201, Bench.join(Data.b(0x98, 200).bytes(), new byte[188], Data.deep(12).encode()));
        due("the HEAD behind kind 6 is no NODE", 7, -1, Data.l(Data.wide(198), Data.c(0)).encode());
        due("the HEAD behind kind 6 is not deeper", 7, -1, nested(0, 11, Data.c(3)).encode());
    }

    private static void firstFault() {
        due("2 ahead of 3", 2, 1, 0x82, 0x18, 1, 0xFF);
        due("3 ahead of 2", 3, 1, 0x82, 0xFF, 0x18, 1);
        due("2 ahead of the end", 2, 1, 0x82, 0x18, 1);
        due("3 ahead of 5", 3, 3, Bench.join(head(4, TWO.pow(10)), Data.b(0x60).bytes(), new byte[300]));
    }

    private static void bytesLeft() {
        due("a byte left", 6, -1, 0, 0);
        due("a byte that is no HEAD left", 6, -1, 0x80, 0xFF);
        due("a byte left behind BYTES", 6, -1, 0x41, 0, 0);
        due("200 NODES and one left", 6, -1, Bench.join(Data.wide(200).encode(), new byte[1]));
        byte[] row = new Tx().in(0).fee(50).sign(1).encode();
        due("a TRANSACTION and a byte", 6, -1, Bench.join(row, new byte[1]));
        due("a TRANSACTION twice", 6, -1, Bench.join(row, row));
        Check.due("a TRANSACTION", used().submit(row), 0);
    }

    /** What a fault leaves behind is not seen by what comes then. */
    private static void nothingIsKept() {
        byte[][] faults = {{}, Data.b(0x82, 0x81).bytes(), Data.b(0x82, 0x18, 0).bytes(), Data.b(0x81, 0x60).bytes(),
            Data.deep(13).encode(), Data.wide(201).encode(), {0, 0}, Data.deep(12).encode()};
        int[] wants = {1, 1, 2, 3, 4, 5, 6, 7};
        for (int k = 0; k < faults.length; k++) {
            Bench bench = used();
            Check.due("a fault", bench.submit(faults[k]), wants[k]);
            bench.due("a TRANSACTION behind " + wants[k], new Tx().in(0, Data.deep(9)).fee(50).sign(1), 0);
            bench.dueLatest("it has no fault", 0, -1, 0, -1);
            bench.dueLook("submitted", 9, 2);
        }
    }
}
