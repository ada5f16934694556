import java.util.Arrays;

/**
 * A public part of ML-DSA whose numbers are all zero. The challenge counts for nothing with it, so that anyone can
 * sign; and a signature can be made that is right but for one thing that the form forbids.
 */
final class Forge {
    private static final int SIZE = 256;
    private static final long MODULUS = 8380417;
    private static final long ROOT = 1753;

    final int set;
    final int rows;
    final int columns;
    final int mostHints;
    /** No number of an answer is so far from zero as this (gamma1 - beta); those on tape are told from the top. */
    final int bound;
    final int top;
    final byte[] publicPart;
    private final int steps;
    private final int challengeLength;

    Forge(int set) {
        this.set = set;
        int i = set - 3;
        rows = new int[] {4, 6, 8}[i];
        columns = new int[] {4, 5, 7}[i];
        mostHints = new int[] {80, 55, 75}[i];
        top = i == 0 ? 1 << 17 : 1 << 19;
        bound = top - new int[] {78, 196, 120}[i];
        steps = i == 0 ? 44 : 16;
        challengeLength = new int[] {32, 48, 64}[i];
        publicPart = Arrays.copyOf(Check.stream("forge", 32), Sizes.PUBLIC[set]);
    }

    /** Hints in their right form: places by row. */
    byte[] form(int[][] places) {
        byte[] hints = new byte[mostHints + rows];
        int count = 0;
        for (int row = 0; row < rows; row++) {
            for (int place : places[row]) {
                hints[count] = (byte) place;
                count++;
            }
            hints[mostHints + row] = (byte) count;
        }
        return hints;
    }

    /** A signature of nothing whose answer is zero, with these bytes for hints, read as hints at these places. */
    byte[] hinted(int[][] read, byte[] hints) {
        int[][] high = new int[rows][SIZE];
        for (int row = 0; row < rows; row++) {
            for (int place : read[row]) {
                // A hint where the rest is zero goes one step down, from the first to the last.
                high[row][place] = steps - 1;
            }
        }
        return signature(high, new int[columns][SIZE], hints);
    }

    /** A signature of nothing without hints, whose answer is zero but for one number. */
    byte[] answered(int column, int place, int number) {
        int[][] answer = new int[columns][SIZE];
        answer[column][place] = number;
        int[][] high = new int[rows][SIZE];
        for (int row = 0; row < rows; row++) {
            long[] entry = restored(sampled(row, column));
            for (int i = 0; i < SIZE; i++) {
                // Times the place's power: what goes over the end comes back with the other sign.
                int to = (i + place) % SIZE;
                long sign = i + place < SIZE ? 1 : -1;
                high[row][to] = high(Math.floorMod(sign * entry[i] * number, MODULUS));
            }
        }
        return signature(high, answer, new byte[mostHints + rows]);
    }

    private byte[] signature(int[][] high, int[][] answer, byte[] hints) {
        byte[] hashed = Check.join(shake(3, publicPart, 64), new byte[2]);
        byte[] packed = shake(3, hashed, 64);
        for (int[] row : high) {
            packed = Check.join(packed, pack(row, set == 3 ? 6 : 4));
        }
        byte[] signature = shake(3, packed, challengeLength);
        for (int[] f : answer) {
            int[] told = new int[SIZE];
            for (int i = 0; i < SIZE; i++) {
                told[i] = top - f[i];
            }
            signature = Check.join(signature, pack(told, set == 3 ? 18 : 20));
        }
        return Check.join(signature, hints);
    }

    private static byte[] pack(int[] numbers, int bits) {
        byte[] bytes = new byte[32 * bits];
        for (int i = 0; i < SIZE * bits; i++) {
            bytes[i / 8] |= (byte) ((numbers[i / bits] >> i % bits & 1) << i % 8);
        }
        return bytes;
    }

    /** HighBits, by the words of Decompose. */
    private int high(long number) {
        long step = (MODULUS - 1) / steps;
        long rest = number % step;
        rest = rest > step / 2 ? rest - step : rest;
        return number - rest == MODULUS - 1 ? 0 : (int) ((number - rest) / step);
    }

    /** RejNTTPoly of an entry of the matrix. */
    private long[] sampled(int row, int column) {
        byte[] seed = Arrays.copyOf(publicPart, 34);
        seed[32] = (byte) column;
        seed[33] = (byte) row;
        byte[] bytes = shake(2, seed, 3 * (SIZE + 20));
        long[] numbers = new long[SIZE];
        int filled = 0;
        for (int at = 0; filled < SIZE; at += 3) {
            int number = bytes[at] & 255 | (bytes[at + 1] & 255) << 8 | (bytes[at + 2] & 127) << 16;
            if (number < MODULUS) {
                numbers[filled] = number;
                filled++;
            }
        }
        return numbers;
    }

    /** The inverse transform by its meaning: numbers of a polynomial from its values at the odd powers of the root. */
    private static long[] restored(long[] values) {
        long[] powers = new long[2 * SIZE];
        powers[0] = 1;
        for (int i = 1; i < 2 * SIZE; i++) {
            powers[i] = powers[i - 1] * ROOT % MODULUS;
        }
        long inverse = MODULUS - (MODULUS - 1) / SIZE;
        long[] numbers = new long[SIZE];
        for (int k = 0; k < SIZE; k++) {
            long sum = 0;
            for (int i = 0; i < SIZE; i++) {
                int odd = 2 * (Integer.reverse(i) >>> 24) + 1;
                sum += values[i] * powers[Math.floorMod(-odd * k, 2 * SIZE)] % MODULUS;
            }
            numbers[k] = sum % MODULUS * inverse % MODULUS;
        }
        return numbers;
    }

    /** By the program's own hash, which HashTest has judged, in pieces that are few enough calls. */
    private static byte[] shake(int kind, byte[] input, int length) {
        byte[] output = new byte[length];
        for (int at = 0; at < length; at += 256) {
            Desk desk = new Desk().tape(input);
            desk.next().hash(kind, length);
            int count = Math.min(256, length - at);
            System.arraycopy(desk.resultBytes(at, count), 0, output, at, count);
        }
        return output;
    }
}
