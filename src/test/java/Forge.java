import java.util.Arrays;

/**
 * A public part of ML-DSA whose numbers are all zero. The challenge counts for nothing with it, so that anyone can
 * sign; and a signature can be made that is right but for one thing that the form forbids.
 */
final class Forge {
    private static final int SIZE = 256;
    static final long MODULUS = 8380417;
    private static final long ROOT = 1753;

    final int set;
    final int rows;
    final int columns;
    final int mostHints;
    /** No number of an answer is so far from zero as this (gamma1 - beta); those on tape are told from the top. */
    final int bound;
    final int top;
    final byte[] publicPart;
    final int challengeLength;
    /** The high bits tell so many steps of this length (2 * gamma2). */
    final int steps;
    final long step;
    private final long[][] entries;

    Forge(int set) {
        this.set = set;
        int i = set - 3;
        rows = new int[] {4, 6, 8}[i];
        columns = new int[] {4, 5, 7}[i];
        mostHints = new int[] {80, 55, 75}[i];
        top = i == 0 ? 1 << 17 : 1 << 19;
        bound = top - new int[] {78, 196, 120}[i];
        steps = i == 0 ? 44 : 16;
        step = (MODULUS - 1) / steps;
        challengeLength = new int[] {32, 48, 64}[i];
        entries = new long[rows * columns][];
        publicPart = Arrays.copyOf(Check.stream("forge", 32), Sizes.PUBLIC[set]);
    }

    /** Hints in their right form: places by row. */
    byte[] form(int[][] places) {
        byte[] hints = new byte[mostHints + rows];
        int count = 0;
        for (int row = 0; row < rows; row++) {
            for (int place : places[row]) {
                hints[count] = (byte) place;
                count++;
            }
            hints[mostHints + row] = (byte) count;
        }
        return hints;
    }

    /** A signature of nothing whose answer is zero, with these bytes for hints, read as hints at these places. */
    byte[] hinted(int[][] read, byte[] hints) {
        return signature(0, 0, 0, read, hints);
    }

    /** A signature of nothing without hints, whose answer is zero but for one number. */
    byte[] answered(int column, int place, int number) {
        return signature(column, place, number, new int[rows][0], new byte[mostHints + rows]);
    }

    /** A signature of nothing whose product has a number at a place of a row, with a hint for it or without. */
    byte[] reaching(long wanted, int row, int at, boolean hint) {
        int[][] places = new int[rows][0];
        if (hint) {
            places[row] = new int[] {at};
        }
        for (int i = 0; i < SIZE; i++) {
            int place = Math.floorMod(at - i, SIZE);
            long factor = Math.floorMod(sign(i, place) * entry(row, 0)[i], MODULUS);
            long number = wanted * inverse(factor) % MODULUS;
            number = number > MODULUS / 2 ? number - MODULUS : number;
            if (factor != 0 && Math.abs(number) < bound) {
                return signature(0, place, (int) number, places, form(places));
            }
        }
        throw new AssertionError("no short answer reaches " + wanted);
    }

    /** The number stands at a place of a column of the answer, which is zero otherwise. */
    private byte[] signature(int column, int place, int number, int[][] read, byte[] hints) {
        byte[] packed = shake(3, Check.join(shake(3, publicPart, 64), new byte[2]), 64);
        for (int row = 0; row < rows; row++) {
            long[] product = times(entry(row, column), place, number);
            int[] high = new int[SIZE];
            for (int i = 0; i < SIZE; i++) {
                high[i] = high(product[i]);
            }
            for (int i : read[row]) {
                high[i] = Math.floorMod(high(product[i]) + (low(product[i]) > 0 ? 1 : -1), steps);
            }
            packed = Check.join(packed, pack(high, set == 3 ? 6 : 4));
        }
        byte[] signature = shake(3, packed, challengeLength);
        for (int j = 0; j < columns; j++) {
            int[] told = new int[SIZE];
            Arrays.fill(told, top);
            told[place] -= j == column ? number : 0;
            signature = Check.join(signature, pack(told, set == 3 ? 18 : 20));
        }
        return Check.join(signature, hints);
    }

    private long[] entry(int row, int column) {
        int at = row * columns + column;
        if (entries[at] == null) {
            entries[at] = restored(sampled(row, column));
        }
        return entries[at];
    }

    /** Times a number and a place's power: what goes over the end comes back with the other sign. */
    private static long[] times(long[] f, int place, int number) {
        long[] product = new long[SIZE];
        for (int i = 0; i < SIZE; i++) {
            product[(i + place) % SIZE] = Math.floorMod(sign(i, place) * f[i] * number, MODULUS);
        }
        return product;
    }

    private static long sign(int i, int place) {
        return i + place < SIZE ? 1 : -1;
    }

    /** The power of the modulus less two. */
    private static long inverse(long number) {
        long power = 1;
        for (int bit = 22; bit >= 0; bit--) {
            power = power * power % MODULUS;
            power = (MODULUS - 2 >> bit & 1) == 1 ? power * number % MODULUS : power;
        }
        return power;
    }

    static byte[] pack(int[] numbers, int bits) {
        byte[] bytes = new byte[32 * bits];
        for (int i = 0; i < SIZE * bits; i++) {
            bytes[i / 8] |= (byte) ((numbers[i / bits] >> i % bits & 1) << i % 8);
        }
        return bytes;
    }

    /** HighBits and LowBits, by the words of Decompose. */
    private int high(long number) {
        long rest = rest(number);
        return number - rest == MODULUS - 1 ? 0 : (int) ((number - rest) / step);
    }

    private long low(long number) {
        long rest = rest(number);
        return number - rest == MODULUS - 1 ? rest - 1 : rest;
    }

    private long rest(long number) {
        long rest = number % step;
        return rest > step / 2 ? rest - step : rest;
    }

    /** RejNTTPoly of an entry of the matrix. */
    private long[] sampled(int row, int column) {
        byte[] seed = Arrays.copyOf(publicPart, 34);
        seed[32] = (byte) column;
        seed[33] = (byte) row;
        byte[] bytes = shake(2, seed, 3 * (SIZE + 20));
        long[] numbers = new long[SIZE];
        int filled = 0;
        for (int at = 0; filled < SIZE; at += 3) {
            int number = bytes[at] & 255 | (bytes[at + 1] & 255) << 8 | (bytes[at + 2] & 127) << 16;
            if (number < MODULUS) {
                numbers[filled] = number;
                filled++;
            }
        }
        return numbers;
    }

    /** SampleInBall: so many numbers that are 1 or -1. */
    static int[] ball(byte[] challenge, int ones) {
        byte[] bytes = shake(3, challenge, 256);
        int[] ball = new int[SIZE];
        int at = 8;
        for (int i = SIZE - ones; i < SIZE; i++) {
            while ((bytes[at] & 255) > i) {
                at++;
            }
            int sign = i - SIZE + ones;
            ball[i] = ball[bytes[at] & 255];
            ball[bytes[at] & 255] = (bytes[sign / 8] >> sign % 8 & 1) == 0 ? 1 : -1;
            at++;
        }
        return ball;
    }

    /** The inverse transform by its meaning: numbers of a polynomial from its values at the odd powers of the root. */
    private static long[] restored(long[] values) {
        long[] powers = new long[2 * SIZE];
        powers[0] = 1;
        for (int i = 1; i < 2 * SIZE; i++) {
            powers[i] = powers[i - 1] * ROOT % MODULUS;
        }
        long inverse = MODULUS - (MODULUS - 1) / SIZE;
        long[] numbers = new long[SIZE];
        for (int k = 0; k < SIZE; k++) {
            long sum = 0;
            for (int i = 0; i < SIZE; i++) {
                int odd = 2 * (Integer.reverse(i) >>> 24) + 1;
                sum += values[i] * powers[Math.floorMod(-odd * k, 2 * SIZE)] % MODULUS;
            }
            numbers[k] = sum % MODULUS * inverse % MODULUS;
        }
        return numbers;
    }

    /** By the program's own hash, which HashTest has judged, in pieces that are few enough calls. */
    private static byte[] shake(int kind, byte[] input, int length) {
        byte[] output = new byte[length];
        for (int at = 0; at < length; at += 256) {
            Desk desk = new Desk().tape(input);
            desk.next().hash(kind, length);
            int count = Math.min(256, length - at);
            System.arraycopy(desk.resultBytes(at, count), 0, output, at, count);
        }
        return output;
    }
}
