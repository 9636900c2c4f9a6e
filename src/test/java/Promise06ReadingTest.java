import java.io.ByteArrayOutputStream;
import java.math.BigInteger;

/** Promise 6, VERDICTS 1 to 6: READING DATA, and the places of its faults. */
public final class Promise06ReadingTest {
    public static void main(String[] args) {
        ends();
        tooManyBytes();
        wrongHeads();
        constructors();
        depth();
        nodes();
        bytesLeft();
        orderOfFaults();
        transactionCutAnywhere();
        Check.end();
    }

    private static void due(String what, int verdict, int place, byte[] bytes) {
        Bench bench = new Bench(1);
        bench.x.endowOwner(1, 50);
        Check.due(what, bench.submit(bytes), verdict);
        bench.dueLatest(what, verdict, place, 0, -1, -1, -1, -1, bytes.length);
        bench.dueLook(what + ", the TAPE", 6, 0);
        bench.dueLook(what + ", submitted", 9, 1);
    }

    private static void due(String what, int verdict, int place, int... bytes) {
        due(what, verdict, place, Data.b(bytes).bytes());
    }

    private static void ends() {
        due("an empty TAPE", 1, 0);
        due("a byte to come", 1, 1, 0x18);
        due("two bytes, one there", 1, 2, 0x19, 1);
        due("four bytes, three there", 1, 4, 0x1A, 1, 1, 1);
        due("eight bytes, seven there", 1, 8, 0x1B, 1, 1, 1, 1, 1, 1, 1);
        due("BYTES 2, one there", 1, 2, 0x42, 1);
        due("BYTES 64, none there", 1, 2, 0x58, 64);
        due("a LIST of 1", 1, 1, 0x81);
        due("a LIST of 2, one there", 1, 2, 0x82, 0);
        due("a LIST of 2^64 - 1", 1, 9, 0x9B, 255, 255, 255, 255, 255, 255, 255, 255);
        due("a MAP of 2^64 - 1", 1, 10, 0xBB, 255, 255, 255, 255, 255, 255, 255, 255, 0);
        due("a MAP of 2^31", 1, 6, 0xBA, 128, 0, 0, 0, 0);
        due("a MAP of 2^63", 1, 10, 0xBB, 128, 0, 0, 0, 0, 0, 0, 0, 0);
        due("a LIST of 2^32", 1, 10, 0x9B, 0, 0, 0, 1, 0, 0, 0, 0, 0);
        due("a key without its value", 1, 2, 0xA1, 0);
        due("a CONSTRUCTOR without a HEAD", 1, 2, 0xD8, 121);
        due("a CONSTRUCTOR of 1", 1, 3, 0xD8, 121, 0x81);
        due("a CONSTRUCTOR of so many as are to be told", 1, 3, 0xD8, 121, 0x98);
        due("a HEAD of kind 6 without its number", 1, 1, 0xD8);
    }

    private static void tooManyBytes() {
        due("23 in a byte of its own", 2, 0, 0x18, 23);
        due("24 in a byte of its own", 7, -1, 0x18, 24);
        due("255 in two bytes", 2, 0, 0x19, 0, 255);
        due("256 in two bytes", 7, -1, 0x19, 1, 0);
        due("65535 in four bytes", 2, 0, 0x1A, 0, 0, 255, 255);
        due("65536 in four bytes", 7, -1, 0x1A, 0, 1, 0, 0);
        due("2^32 - 1 in eight bytes", 2, 0, 0x1B, 0, 0, 0, 0, 255, 255, 255, 255);
        due("2^32 in eight bytes", 7, -1, 0x1B, 0, 0, 0, 1, 0, 0, 0, 0);
        due("-24 in a byte of its own", 2, 1, 0x81, 0x38, 23);
        due("BYTES 1 in a byte of its own", 2, 0, 0x58, 1, 1);
        due("a LIST of 0 in two bytes", 2, 0, 0x99, 0, 0);
        due("a MAP of 0 in a byte of its own", 2, 2, 0x82, 0, 0xB8, 0);
        due("121 in two bytes", 2, 0, 0xD9, 0, 121, 0x80);
        due("a LIST of fields, 0 in a byte of its own", 2, 2, 0xD8, 121, 0x98, 0);
        due("kind 6 and 5 in a byte of its own", 2, 0, 0xD8, 5, 0x80);
    }

    private static void wrongHeads() {
        for (int kind = 0; kind < 8; kind++) {
            for (int low = 28; low < 32; low++) {
                due("kind " + kind + " and " + low, 3, 0, 32 * kind + low);
                due("kind " + kind + " and " + low + " within", 3, 2, 0x82, 0, 32 * kind + low, 0);
            }
        }
        for (int low = 0; low < 28; low++) {
            due("kind 3 and " + low, 3, 0, 0x60 + low);
            due("kind 7 and " + low, 3, 1, 0x81, 0xE0 + low);
        }
        due("2^63 - 1", 7, -1, 0x1B, 127, 255, 255, 255, 255, 255, 255, 255);
        due("2^63", 3, 0, 0x1B, 128, 0, 0, 0, 0, 0, 0, 0);
        due("2^64 - 1", 3, 0, 0x1B, 255, 255, 255, 255, 255, 255, 255, 255);
        due("-2^63", 7, -1, 0x3B, 127, 255, 255, 255, 255, 255, 255, 255);
        due("-2^63 - 1", 3, 1, 0x81, 0x3B, 128, 0, 0, 0, 0, 0, 0, 0);
        due("BYTES 65", 3, 0, 0x58, 65);
        due("BYTES 2^63", 3, 0, 0x5B, 128, 0, 0, 0, 0, 0, 0, 0);
        due("BYTES 256", 3, 0, 0x59, 1, 0);
        due("BYTES 64", 7, -1, Data.bs(64).encode());
    }

    private static void constructors() {
        int[] wrong = {0, 23, 24, 120, 128, 255, 256, 1279, 1401, 65535, 65536};
        for (int number : wrong) {
            ByteArrayOutputStream out = new ByteArrayOutputStream();
            out.write(0x81);
            Data.head(out, 6, BigInteger.valueOf(number));
            out.write(0x80);
            due("kind 6 and " + number, 3, 1, out.toByteArray());
        }
        due("kind 6 and 2^63 + 121", 3, 0, 0xDB, 128, 0, 0, 0, 0, 0, 0, 121, 0x80);
        due("kind 6 and 2^32 + 121", 3, 0, 0xDB, 0, 0, 0, 1, 0, 0, 0, 121, 0x80);
        for (int number : new int[] {0, 6, 7, 127}) {
            due("CONSTRUCTOR " + number, 7, -1, Data.c(number).encode());
        }
        for (int kind : new int[] {0, 1, 2, 3, 5, 6, 7}) {
            due("kind " + kind + " behind kind 6", 3, 2, 0xD8, 121, 32 * kind, 0x80);
            due("kind " + kind + " behind kind 6, with its number to come", 3, 2, 0xD8, 121, 32 * kind + 24);
        }
        due("28 behind kind 6", 3, 2, 0xD8, 121, 0x9C);
    }

    private static void depth() {
        due("DEPTH 12", 7, -1, Data.deep(12).encode());
        due("DEPTH 13", 4, 12, Data.deep(13).encode());
        due("an INTEGER at DEPTH 13", 4, 12, nested(12, Data.i(5)).encode());
        due("an INTEGER at DEPTH 12", 7, -1, nested(11, Data.i(5)).encode());
        due("DEPTH 13 behind others", 4, 14, Data.l(Data.i(1), Data.i(2), Data.deep(12)).encode());
        due("a key at DEPTH 13", 4, 12, nested(11, Data.m(Data.i(1), Data.i(2))).encode());
        due("CONSTRUCTORS to DEPTH 12", 7, -1, constructors(12).encode());
        due("CONSTRUCTORS to DEPTH 13", 4, 36, constructors(13).encode());
        // The NODE is seen with its HEAD of kind 6, what follows this does not count.
        byte[] row = constructors(13).encode();
        row[38] = 0;
        due("DEPTH 13 before what follows", 4, 36, row);
        due("DEPTH 12 again, behind what was deep", 7, -1, Data.l(Data.deep(11), Data.deep(11), Data.i(1)).encode());
    }

    private static Data nested(int lists, Data inmost) {
        return lists == 0 ? inmost : Data.l(nested(lists - 1, inmost));
    }

    private static Data constructors(int depth) {
        return depth == 1 ? Data.c(1) : Data.c(1, constructors(depth - 1));
    }

    private static void nodes() {
        due("200 NODES", 7, -1, Data.wide(200).encode());
        due("201 NODES", 5, 201, Data.wide(201).encode());
        due("a LIST of 2^64 - 1 that goes on", 5, 208, Bench.join(
                Data.b(0x9B, 255, 255, 255, 255, 255, 255, 255, 255).bytes(), new byte[300]));
        due("a MAP of 2^64 - 1 that goes on", 5, 208, Bench.join(
                Data.b(0xBB, 255, 255, 255, 255, 255, 255, 255, 255).bytes(), new byte[300]));
        due("a MAP of 2^63 that goes on", 5, 208, Bench.join(
                Data.b(0xBB, 128, 0, 0, 0, 0, 0, 0, 0).bytes(), new byte[300]));
        due("a MAP of 100 pairs", 5, 201, Bench.join(Data.b(0xB8, 100).bytes(), new byte[200]));
        due("a MAP of 99 pairs", 7, -1, Bench.join(Data.b(0xB8, 99).bytes(), new byte[198]));
        byte[] row = Bench.join(Data.b(0x98, 200).bytes(), new byte[199], Data.b(0x42, 1).bytes());
        due("the 201st NODE before its bytes", 5, 201, row);
        row = Bench.join(Data.b(0x98, 200).bytes(), new byte[199], Data.b(0xD8, 121, 0).bytes());
        due("the 201st NODE before what follows it", 5, 201, row);
        row = Bench.join(Data.b(0x98, 200).bytes(), new byte[199], Data.b(0x18, 1).bytes());
        due("too many bytes before the 201st NODE", 2, 201, row);
        row = Bench.join(Data.b(0x98, 200).bytes(), new byte[199]);
        due("the end before the 201st NODE", 1, 201, row);
    }

    private static void bytesLeft() {
        due("a byte left", 6, -1, 0, 0);
        due("a byte that is no HEAD left", 6, -1, 0x80, 0xFF);
        byte[] row = new Tx().in(0).fee(50).sign(1).encode();
        due("a TRANSACTION", 0, -1, row);
        due("a TRANSACTION and a byte", 6, -1, Bench.join(row, new byte[1]));
    }

    private static void orderOfFaults() {
        due("the lowest bits before the end", 3, 0, 0x7C);
        due("the end of the number before 3 of it", 1, 8, 0x5B, 255, 255, 255, 255, 255, 255, 255);
        due("2 before 3 of the number", 2, 0, 0xD8, 1);
        due("3 of the number before the bytes' end", 3, 0, 0x58, 200);
        byte[] row = Data.deep(13).encode();
        row[12] = (byte) 0x9C;
        due("3 before DEPTH", 3, 12, row);
        row[12] = (byte) 0x58;
        due("the end before DEPTH", 1, 13, row);
        due("2 before DEPTH", 2, 12, Bench.join(row, new byte[1]));
        row = Bench.join(Data.b(0x98, 200).bytes(), new byte[188], Data.deep(12).encode());
        due("DEPTH before NODES", 4, 201, row);
    }

    private static void transactionCutAnywhere() {
        byte[] row = new Tx().in(0).back(1).pay(Tx.script(1), Tx.value(0, 0, 5000, 1, -1, 7), Data.b(1, 2, 3))
                .fee(300).mint(1, -1, 7).redeem(1, Data.c(130 - 100, Data.i(-300))).sign(1, 2).encode();
        for (int last = 1; last <= row.length; last++) {
            due("without the last " + last, 1, row.length - last, Bench.without(row, last));
        }
    }
}
