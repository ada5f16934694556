import java.util.Arrays;

/** An object under test. Its calls are counted, as the document promises nothing after the 512th. */
final class Desk {
    private final LatticeKeys keys;
    private int calls = 0;

    Desk() {
        this(new LatticeKeys());
    }

    Desk(LatticeKeys keys) {
        this.keys = keys;
    }

    /** The object, for one call more. */
    LatticeKeys next() {
        calls++;
        if (calls > 512) {
            throw new AssertionError("the test makes more than 512 calls on one object");
        }
        return keys;
    }

    int calls() {
        return calls;
    }

    /** The tape is these bytes. */
    Desk tape(byte[] bytes) {
        next().end(0);
        return write(bytes);
    }

    /** These bytes come behind what the tape has. */
    Desk write(byte[] bytes) {
        int length = next().count(0) + bytes.length;
        byte[] padded = Arrays.copyOf(bytes, bytes.length + 20);
        for (int at = 0; at < bytes.length; at += 20) {
            next().feed(number(padded, at), number(padded, at + 4), number(padded, at + 8),
                    number(padded, at + 12), number(padded, at + 16));
        }
        next().end(length);
        return this;
    }

    private static int number(byte[] from, int at) {
        return (from[at] & 255) << 24 | (from[at + 1] & 255) << 16 | (from[at + 2] & 255) << 8 | from[at + 3] & 255;
    }

    /** The tape is 8,192 bytes of SHAKE256 of nothing, twice, up to a length; the result is written over. */
    Desk fill(int length) {
        next().end(0);
        next().hash(3, 8192);
        next().again();
        next().again();
        next().end(length);
        return this;
    }

    int tapeByte(int i) {
        return next().alter(i, 0);
    }

    /** Bytes of the tape, by one call a byte. */
    String tapeHex(int from, int count) {
        byte[] bytes = new byte[count];
        for (int i = 0; i < count; i++) {
            bytes[i] = (byte) tapeByte(from + i);
        }
        return Check.hex(bytes);
    }

    String tapeHex() {
        return tapeHex(0, next().count(0));
    }

    /** Bytes of the result, by one call a byte. */
    byte[] resultBytes(int from, int count) {
        byte[] bytes = new byte[count];
        for (int i = 0; i < count; i++) {
            bytes[i] = (byte) next().result(from + i);
        }
        return bytes;
    }

    String resultHex(int count) {
        return Check.hex(resultBytes(0, count));
    }

    String resultHex() {
        return resultHex(next().count(2));
    }

    /** The last bytes of a part, by one call a byte. */
    byte[] partsEnd(int number, boolean secret, int count) {
        int length = next().told(number, secret ? 2 : 1);
        byte[] bytes = new byte[count];
        for (int i = 0; i < count; i++) {
            bytes[i] = (byte) next().part(number, secret, length - count + i);
        }
        return bytes;
    }

    /** SHA3-256 of the result, which is lost by it, as is the tape. */
    String resultDigest() {
        next().end(0);
        next().again();
        return tapeDigest();
    }

    /** SHA3-256 of the tape, which is lost by it, as is the result. */
    String tapeDigest() {
        next().hash(0, 0);
        return resultHex();
    }

    String partDigest(int number, boolean secret) {
        next().show(number, secret);
        return resultDigest();
    }

    /** Keys of a set in few calls, all of the same seed. */
    int quickKeys(int set) {
        next().end(0);
        next().hash(3, Sizes.seed(set));
        next().again();
        return next().keys(set);
    }

    /** The public part of keys that are there becomes keys of its own. */
    int loadPublic(int number) {
        next().end(0);
        next().show(number, false);
        next().again();
        return next().load(next().told(number, 0), false);
    }

    /** The result is so many bytes of SHAKE128 of nothing; the tape is lost by it. */
    Desk result(int length) {
        next().end(0);
        next().hash(2, length);
        return this;
    }

    /** Length and digest of the tape, which is lost by it, as is the result. */
    String tapeAccount() {
        return next().count(0) + " " + tapeDigest();
    }

    /** Length and digest of the result, which is lost by it, as is the tape. */
    String resultAccount() {
        return next().count(2) + " " + resultDigest();
    }

    /** What is told of all keys, and a digest over all their parts; tape and result are lost by it. */
    String keysAccount() {
        int count = next().count(1);
        StringBuilder account = new StringBuilder().append(count);
        next().end(0);
        for (int number = 0; number < count; number++) {
            int secretLength = next().told(number, 2);
            account.append(' ').append(next().told(number, 0)).append(' ').append(next().told(number, 1));
            account.append(' ').append(secretLength);
            chain(number, false);
            if (secretLength > 0) {
                chain(number, true);
            }
        }
        return account.append(' ').append(tapeDigest()).toString();
    }

    /** The tape is the digest of what it was and of a part. */
    private void chain(int number, boolean secret) {
        next().show(number, secret);
        next().again();
        next().hash(0, 0);
        next().again();
    }

    /** Lengths of tape and result and the number of keys, in a text. */
    String lengths() {
        return next().count(0) + " " + next().count(1) + " " + next().count(2);
    }
}
