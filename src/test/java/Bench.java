import java.util.ArrayList;
import java.util.Arrays;
import java.util.List;

/** An object under test, with shorter ways to give it bytes. */
final class Bench {
    final Face x;

    Bench(int depth) {
        x = new Face(depth);
    }

    /** The bytes come to the TAPE. */
    Bench give(byte[] bytes) {
        for (int at = 0; at < bytes.length; at += 8) {
            int n = Math.min(8, bytes.length - at);
            long v = 0;
            for (int k = 0; k < n; k++) {
                v = v << 8 | bytes[at + k] & 255;
            }
            Check.due("giveTape(.., " + n + ")", x.giveTape(v, n), true);
        }
        return this;
    }

    Bench give(int... bytes) {
        return give(Data.b(bytes).bytes());
    }

    Bench endow(int many, int owner, long amount) {
        for (int k = 0; k < many; k++) {
            Check.due("endowOwner(" + owner + ", " + amount + ")", x.endowOwner(owner, amount) >= 0, true);
        }
        return this;
    }

    int register(Term term) {
        return give(term.encode()).x.registerScript();
    }

    int register(int... bytes) {
        return give(bytes).x.registerScript();
    }

    int submit(byte[] bytes) {
        return give(bytes).x.submitTape();
    }

    int submit(Data data) {
        return submit(data.encode());
    }

    int submit(Tx tx) {
        return submit(tx.encode());
    }

    void due(String what, Tx tx, int verdict) {
        Check.due(what, submit(tx), verdict);
    }

    void dueLatest(String what, long... want) {
        for (int which = 0; which < want.length; which++) {
            Check.due(what + ": latestOf(" + which + ")", x.latestOf(which), want[which]);
        }
    }

    void dueLook(String what, int which, long want) {
        Check.due(what + ": lookAt(" + which + ")", x.lookAt(which), want);
    }

    /** All that can be asked of OUTPUTS and SCRIPTS, of blocks and of runs. */
    List<Long> ledger() {
        List<Long> all = new ArrayList<>();
        for (int which : new int[] {0, 1, 2, 3, 4, 5, 7, 8, 10}) {
            all.add(x.lookAt(which));
        }
        for (int number = 0; number < all.get(2); number++) {
            addOutput(all, number);
        }
        for (int script = 0; script < all.get(5); script++) {
            for (int what = 0; what < 4; what++) {
                all.add((long) x.scriptOf(script, what));
            }
        }
        return all;
    }

    private void addOutput(List<Long> all, int number) {
        int[] told = new int[6];
        for (int what = 0; what < told.length; what++) {
            told[what] = x.outputOf(number, what);
            all.add((long) told[what]);
        }
        for (int i = 0; i < told[4]; i++) {
            for (int what = 0; what < 3; what++) {
                all.add(x.coinOf(number, i, what));
            }
        }
        for (int k = 0; k < told[5]; k++) {
            all.add((long) x.datumOf(number, k));
        }
    }

    /** All of that, and what is told of the TAPE and of transactions. */
    List<Long> everything() {
        List<Long> all = ledger();
        all.add(x.lookAt(6));
        all.add(x.lookAt(9));
        for (int which = 0; which < 8; which++) {
            all.add((long) x.latestOf(which));
        }
        return all;
    }

    /** Whether coinOf throws. */
    boolean coinThrows(int number, int i, int what) {
        try {
            x.coinOf(number, i, what);
            return false;
        } catch (IndexOutOfBoundsException e) {
            return e.getClass() == IndexOutOfBoundsException.class;
        }
    }

    static byte[] join(byte[]... rows) {
        int length = 0;
        for (byte[] row : rows) {
            length += row.length;
        }
        byte[] all = new byte[length];
        int at = 0;
        for (byte[] row : rows) {
            System.arraycopy(row, 0, all, at, row.length);
            at += row.length;
        }
        return all;
    }

    static byte[] without(byte[] row, int last) {
        return Arrays.copyOf(row, row.length - last);
    }
}
