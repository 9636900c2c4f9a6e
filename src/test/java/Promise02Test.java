import java.util.Arrays;

/** Promise 2: giveTape. */
public final class Promise02Test {
    public static void main(String[] args) {
        Edge.of("n bytes of v, 1 .. 8", Promise02Test::numbers);
        Edge.of("the highest first (of its lowest n)", Promise02Test::order);
        Edge.of("false if n is not as said", Promise02Test::wrongNumbers);
        Edge.of("THE TAPE has up to 4096 bytes", Promise02Test::mostBytes);
        Edge.of("or there is no room", Promise02Test::noRoom);
        Check.end();
    }

    private static void numbers() {
        Bench bench = new Bench(1);
        int all = 0;
        for (int n = 1; n <= 8; n++) {
            all += n;
            Check.due("giveTape(-1, " + n + ")", bench.x.giveTape(-1, n), true);
            bench.dueLook("bytes behind that", 6, all);
        }
    }

    /** The bytes can be seen in a DATUM that they come to. */
    private static void order() {
        for (int n = 1; n <= 8; n++) {
            Bench bench = new Bench(1).endow(1, 1, 1000);
            byte[] tx = new Tx().in(0).pay(Tx.owner(1), Tx.value(0, 0, 900), Data.b(1, 2, 3, 4, 5, 6, 127, 128, 255))
                    .fee(100).sign(1).encode();
            for (int at = 0; at < tx.length; at += n) {
                int many = Math.min(n, tx.length - at);
                // What lies above the lowest bytes does not count.
                long v = at % 2 == 0 ? 0x7A7A7A7A7A7A7A7AL : -1;
                for (int k = 0; k < many; k++) {
                    v = v << 8 | tx[at + k] & 255;
                }
                Check.due("giveTape", bench.x.giveTape(v, many), true);
            }
            Check.due("given by " + n + ": submitTape()", bench.x.submitTape(), 0);
            int[] datum = {0x49, 1, 2, 3, 4, 5, 6, 127, 128, 255};
            for (int k = 0; k < datum.length; k++) {
                Check.due("given by " + n + ": datumOf(1, " + k + ")", bench.x.datumOf(1, k), datum[k]);
            }
        }
    }

    /** With a part of a script on the TAPE: LAMBDA, INTEGER and the first byte of its number. */
    private static Bench begun() {
        Bench bench = new Bench(1).endow(1, 1, 1000);
        return bench.give(1, 7, 129);
    }

    private static void wrongNumbers() {
        for (int n : new int[] {0, 9, -1, 10, 16, 64, 4096, -8, Integer.MIN_VALUE, Integer.MAX_VALUE}) {
            Refused.due("giveTape(5, " + n + ")", Promise02Test::begun, bench -> bench.x.giveTape(5, n) ? 1 : 0, 0);
            Bench bench = begun();
            bench.x.giveTape(-1, n);
            Check.due("the TAPE goes on where it ended", bench.register(1), 0);
            Check.due("its bytes", bench.x.scriptOf(0, 2), 4);
        }
    }

    /** DATA of 4096 bytes: a LIST of 62 BYTES of 64 and two INTEGERS. */
    private static byte[] fullTape() {
        Data[] parts = new Data[64];
        Arrays.fill(parts, Data.bs(64));
        parts[62] = Data.i(0);
        parts[63] = Data.i(0);
        return Data.l(parts).encode();
    }

    private static void mostBytes() {
        Check.due("bytes of the TAPE", fullTape().length, 4096);
        Bench bench = new Bench(1).give(fullTape());
        Check.due("calls that are left", bench.x.callsLeft(), 0);
        bench = new Bench(1).give(Bench.without(fullTape(), 8));
        Check.due("4088 bytes: submitTape()", bench.x.submitTape(), 1);
    }

    private static Bench filled(int bytes) {
        return new Bench(1).give(Arrays.copyOf(fullTape(), bytes));
    }

    /** The 512th call finds 4088 bytes at most, so that there is always room within the calls that count. */
    private static void noRoom() {
        for (int n = 1; n <= 8; n++) {
            Bench bench = filled(4088);
            Check.due(n + " bytes with room for 8", bench.x.giveTape(-1, n), true);
            Check.due("calls that are left", bench.x.callsLeft(), 0);
            bench = filled(4088 - n);
            Check.due(n + " bytes with room for more", bench.x.giveTape(-1, n), true);
        }
        Bench bench = filled(4080);
        bench.dueLook("behind that", 6, 4080);
        Check.due("9 bytes are not as said, whatever room there is", bench.x.giveTape(-1, 9), false);
        bench = filled(4080);
        Check.due("giveTape(0, 8)", bench.x.giveTape(0, 8), true);
        bench.dueLook("behind that", 6, 4088);
        bench = filled(4080);
        bench.x.wipeTape();
        Check.due("giveTape(0, 8) on an empty one", bench.x.giveTape(0, 8), true);
    }
}
