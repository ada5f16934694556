import java.util.Arrays;

/** An object under test. Its calls are counted, as the document promises nothing after the 512th. */
final class Desk {
    private final LatticeKeys keys;
    private int calls = 0;

    Desk() {
        this(new LatticeKeys());
    }

    Desk(LatticeKeys keys) {
        this.keys = keys;
    }

    /** The object, for one call more. */
    LatticeKeys next() {
        calls++;
        if (calls > 512) {
            throw new AssertionError("the test makes more than 512 calls on one object");
        }
        return keys;
    }

    /** The tape is these bytes. */
    Desk tape(byte[] bytes) {
        next().end(0);
        return write(bytes);
    }

    /** These bytes come behind what the tape has. */
    Desk write(byte[] bytes) {
        int length = next().count(0) + bytes.length;
        byte[] padded = Arrays.copyOf(bytes, bytes.length + 20);
        for (int at = 0; at < bytes.length; at += 20) {
            next().feed(number(padded, at), number(padded, at + 4), number(padded, at + 8),
                    number(padded, at + 12), number(padded, at + 16));
        }
        next().end(length);
        return this;
    }

    private static int number(byte[] from, int at) {
        return (from[at] & 255) << 24 | (from[at + 1] & 255) << 16 | (from[at + 2] & 255) << 8 | from[at + 3] & 255;
    }

    /** The tape is 8,192 bytes of SHAKE256 of nothing, twice, up to a length; the result is written over. */
    Desk fill(int length) {
        next().end(0);
        next().hash(3, 8192);
        next().again();
        next().again();
        next().end(length);
        return this;
    }

    int tapeByte(int i) {
        return next().alter(i, 0);
    }

    /** The whole tape, by one call a byte. */
    String tapeHex() {
        byte[] bytes = new byte[next().count(0)];
        for (int i = 0; i < bytes.length; i++) {
            bytes[i] = (byte) tapeByte(i);
        }
        return Check.hex(bytes);
    }

    /** The whole result, by one call a byte. */
    String resultHex() {
        byte[] bytes = new byte[next().count(2)];
        for (int i = 0; i < bytes.length; i++) {
            bytes[i] = (byte) next().result(i);
        }
        return Check.hex(bytes);
    }

    /** SHA3-256 of the result, which is lost by it, as is the tape. */
    String resultDigest() {
        next().end(0);
        next().again();
        return tapeDigest();
    }

    /** SHA3-256 of the tape, which is lost by it, as is the result. */
    String tapeDigest() {
        next().hash(0, 0);
        return resultHex();
    }

    String partDigest(int number, boolean secret) {
        next().show(number, secret);
        return resultDigest();
    }

    /** Keys of a set in few calls, all of the same seed. */
    int quickKeys(int set) {
        next().end(0);
        next().hash(3, set < 3 ? 64 : 32);
        next().again();
        return next().keys(set);
    }

    /** Lengths of tape and result and the number of keys, in a text. */
    String lengths() {
        return next().count(0) + " " + next().count(1) + " " + next().count(2);
    }
}
