import java.util.ArrayList;
import java.util.Arrays;
import java.util.List;

/** An object under test, with shorter ways to give it bytes. */
final class Bench {
    final CoinScripts x;

    Bench(int depth) {
        x = new CoinScripts(depth);
    }

    /** The bytes come to the TAPE. */
    Bench give(byte[] bytes) {
        for (int at = 0; at < bytes.length; at += 8) {
            int n = Math.min(8, bytes.length - at);
            long v = 0;
            for (int k = 0; k < n; k++) {
                v = v << 8 | bytes[at + k] & 255;
            }
            Check.due("giveTape(.., " + n + ")", x.giveTape(v, n), true);
        }
        return this;
    }

    Bench give(int... bytes) {
        return give(Data.b(bytes).bytes());
    }

    int register(Term term) {
        return give(term.encode()).x.registerScript();
    }

    int register(int... bytes) {
        return give(bytes).x.registerScript();
    }

    int submit(byte[] bytes) {
        return give(bytes).x.submitTape();
    }

    int submit(Data data) {
        return submit(data.encode());
    }

    int submit(Tx tx) {
        return submit(tx.encode());
    }

    void dueLatest(String what, long... want) {
        for (int which = 0; which < want.length; which++) {
            Check.due(what + ": latestOf(" + which + ")", x.latestOf(which), want[which]);
        }
    }

    void dueLook(String what, int which, long want) {
        Check.due(what + ": lookAt(" + which + ")", x.lookAt(which), want);
    }

    /** All that can be asked of the ledger, but for the TAPE and what is told of transactions and runs. */
    List<Long> state() {
        List<Long> all = new ArrayList<>();
        for (int which : new int[] {0, 1, 2, 3, 4, 5, 7, 8}) {
            all.add(x.lookAt(which));
        }
        for (int number = 0; number < x.lookAt(2); number++) {
            for (int what = 0; what < 6; what++) {
                all.add((long) x.outputOf(number, what));
            }
            for (int i = 0; i < x.outputOf(number, 4); i++) {
                for (int what = 0; what < 3; what++) {
                    all.add(x.coinOf(number, i, what));
                }
            }
            for (int k = 0; k < x.outputOf(number, 5); k++) {
                all.add((long) x.datumOf(number, k));
            }
        }
        return all;
    }

    /** Whether coinOf throws. */
    boolean coinThrows(int number, int i, int what) {
        try {
            x.coinOf(number, i, what);
            return false;
        } catch (IndexOutOfBoundsException e) {
            return e.getClass() == IndexOutOfBoundsException.class;
        }
    }

    static byte[] join(byte[]... rows) {
        int length = 0;
        for (byte[] row : rows) {
            length += row.length;
        }
        byte[] all = new byte[length];
        int at = 0;
        for (byte[] row : rows) {
            System.arraycopy(row, 0, all, at, row.length);
            at += row.length;
        }
        return all;
    }

    static byte[] without(byte[] row, int last) {
        return Arrays.copyOf(row, row.length - last);
    }
}
