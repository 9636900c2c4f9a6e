import java.io.ByteArrayOutputStream;
import java.math.BigInteger;
import java.util.Arrays;
import java.util.List;

/** DATA as a tree: form i INTEGER, b BYTES, l LIST, m MAP (key and value in turn), c CONSTRUCTOR. */
record Data(char form, long number, byte[] bytes, List<Data> parts) {
    static Data i(long v) {
        return new Data('i', v, null, List.of());
    }

    static Data b(int... bytes) {
        byte[] row = new byte[bytes.length];
        for (int k = 0; k < row.length; k++) {
            row[k] = (byte) bytes[k];
        }
        return new Data('b', 0, row, List.of());
    }

    static Data bytesOf(byte[] row) {
        return new Data('b', 0, row, List.of());
    }

    /** BYTES, so many, all of them 7. */
    static Data bs(int many) {
        byte[] row = new byte[many];
        Arrays.fill(row, (byte) 7);
        return bytesOf(row);
    }

    static Data l(Data... parts) {
        return new Data('l', 0, null, List.of(parts));
    }

    static Data l(List<Data> parts) {
        return new Data('l', 0, null, List.copyOf(parts));
    }

    static Data m(Data... parts) {
        return new Data('m', 0, null, List.of(parts));
    }

    static Data m(List<Data> parts) {
        return new Data('m', 0, null, List.copyOf(parts));
    }

    static Data c(long n, Data... parts) {
        return new Data('c', n, null, List.of(parts));
    }

    static Data c(long n, List<Data> parts) {
        return new Data('c', n, null, List.copyOf(parts));
    }

    /** LISTS within one another, so deep. */
    static Data deep(int depth) {
        return depth <= 1 ? l() : l(deep(depth - 1));
    }

    /** A LIST of INTEGERS 0, with so many NODES in all. */
    static Data wide(int nodes) {
        Data[] parts = new Data[nodes - 1];
        Arrays.fill(parts, i(0));
        return l(parts);
    }

    int nodes() {
        int sum = 1;
        for (Data part : parts) {
            sum += part.nodes();
        }
        return sum;
    }

    int depth() {
        int most = 0;
        for (Data part : parts) {
            most = Math.max(most, part.depth());
        }
        return 1 + most;
    }

    int bytesWithin() {
        int sum = form == 'b' ? bytes.length : 0;
        for (Data part : parts) {
            sum += part.bytesWithin();
        }
        return sum;
    }

    int size() {
        return nodes() + bytesWithin() / 8;
    }

    boolean same(Data other) {
        if (form != other.form || number != other.number || parts.size() != other.parts.size()) {
            return false;
        }
        if (form == 'b' && !Arrays.equals(bytes, other.bytes)) {
            return false;
        }
        for (int k = 0; k < parts.size(); k++) {
            if (!parts.get(k).same(other.parts.get(k))) {
                return false;
            }
        }
        return true;
    }

    byte[] encode() {
        ByteArrayOutputStream out = new ByteArrayOutputStream();
        write(out);
        return out.toByteArray();
    }

    private void write(ByteArrayOutputStream out) {
        switch (form) {
            case 'i':
                head(out, number < 0 ? 1 : 0, BigInteger.valueOf(number < 0 ? -1 - number : number));
                break;
            case 'b':
                head(out, 2, BigInteger.valueOf(bytes.length));
                out.write(bytes, 0, bytes.length);
                break;
            case 'm':
                head(out, 5, BigInteger.valueOf(parts.size() / 2));
                break;
            case 'c':
                head(out, 6, BigInteger.valueOf(number < 7 ? 121 + number : 1273 + number));
                head(out, 4, BigInteger.valueOf(parts.size()));
                break;
            default:
                head(out, 4, BigInteger.valueOf(parts.size()));
                break;
        }
        for (Data part : parts) {
            part.write(out);
        }
    }

    static void head(ByteArrayOutputStream out, int kind, BigInteger number) {
        int bits = number.bitLength();
        int low = bits <= 8 ? 24 : bits <= 16 ? 25 : bits <= 32 ? 26 : 27;
        if (number.compareTo(BigInteger.valueOf(24)) < 0) {
            out.write(32 * kind + number.intValue());
            return;
        }
        longHead(out, kind, low, number);
    }

    /** A HEAD in the form of 24 .. 27, whether it needs it or not. */
    static void longHead(ByteArrayOutputStream out, int kind, int low, BigInteger number) {
        out.write(32 * kind + low);
        for (int k = (1 << (low - 24)) - 1; k >= 0; k--) {
            out.write(number.shiftRight(8 * k).intValue() & 255);
        }
    }
}
