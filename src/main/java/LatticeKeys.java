import java.util.Arrays;
import java.util.NoSuchElementException;

/**
 * ML-KEM (FIPS 203) and ML-DSA (FIPS 204) at all their sizes, with SHA-3 and SHAKE (FIPS 202).
 * Bytes come in over a tape and go out over a result; all chance is given by the caller.
 */
public final class LatticeKeys {
    private static final int TAPE_ROOM = 16384;
    private static final int RESULT_ROOM = 8192;
    private static final int FEED_LENGTH = 20;
    private static final int MOST_PAIRS = 8;
    private static final int KEM_SETS = 3;
    private static final int ALL_SETS = 6;
    private static final int LONGEST_CONTEXT = 255;

    private final byte[] tape = new byte[TAPE_ROOM];
    private int tapeLength = 0;
    private final byte[] answer = new byte[RESULT_ROOM];
    private int answerLength = 0;
    private final KeyPair[] pairs = new KeyPair[MOST_PAIRS];
    private int pairCount = 0;
    private final KemSet[] kemSets = new KemSet[KEM_SETS];
    private final DsaSet[] dsaSets = new DsaSet[ALL_SETS - KEM_SETS];
    private final Sponge sponge = new Sponge();
    private final Kem kem = new Kem();
    private final Dsa dsa = new Dsa();

    public LatticeKeys() {
        for (int i = 0; i < KEM_SETS; i++) {
            kemSets[i] = new KemSet(i);
        }
        for (int i = 0; i < ALL_SETS - KEM_SETS; i++) {
            dsaSets[i] = new DsaSet(i);
        }
    }

    public int feed(int a, int b, int c, int d, int e) throws IllegalStateException {
        if (tapeLength > TAPE_ROOM - FEED_LENGTH) {
            throw new IllegalStateException("no room on the tape");
        }
        writeNumber(a);
        writeNumber(b);
        writeNumber(c);
        writeNumber(d);
        writeNumber(e);
        return tapeLength;
    }

    public int end(int n) throws IllegalArgumentException {
        if (n < 0 || n > tapeLength) {
            throw new IllegalArgumentException("the tape is not so long");
        }
        tapeLength = n;
        return n;
    }

    public int again() throws IllegalStateException {
        if (answerLength > TAPE_ROOM - tapeLength) {
            throw new IllegalStateException("no room on the tape");
        }
        System.arraycopy(answer, 0, tape, tapeLength, answerLength);
        tapeLength += answerLength;
        return tapeLength;
    }

    public int alter(int i, int with) throws IndexOutOfBoundsException {
        if (i < 0 || i >= tapeLength) {
            throw new IndexOutOfBoundsException("no such byte on the tape");
        }
        tape[i] ^= (byte) with;
        return tape[i] & 0xff;
    }

    public int keys(int set) throws IllegalArgumentException, IllegalStateException {
        if (!isSet(set) || tapeLength != seedLength(set)) {
            throw new IllegalArgumentException("no such set, or a seed of another length");
        }
        if (pairCount >= MOST_PAIRS) {
            throw new IllegalStateException("no room for more keys");
        }
        byte[] publicPart = new byte[publicLength(set)];
        byte[] secretPart = new byte[secretLength(set)];
        if (set < KEM_SETS) {
            kem.makePair(kemSets[set], tape, publicPart, secretPart);
        } else {
            dsa.makePair(dsaSets[set - KEM_SETS], tape, publicPart, secretPart);
        }
        tapeLength = 0;
        return keep(new KeyPair(set, publicPart, secretPart));
    }

    public int load(int set, boolean secret)
            throws IllegalArgumentException, UnsupportedOperationException, IllegalStateException {
        if (!isLoadable(set, secret)) {
            throw new IllegalArgumentException("no such set or part, or another length");
        }
        if (set < KEM_SETS && !isSound(kemSets[set], secret)) {
            throw new UnsupportedOperationException("the check of the key fails");
        }
        if (pairCount >= MOST_PAIRS) {
            throw new IllegalStateException("no room for more keys");
        }
        KeyPair pair = secret ? secretFromTape(set) : new KeyPair(set, Arrays.copyOf(tape, tapeLength), null);
        tapeLength = 0;
        return keep(pair);
    }

    public int part(int keys, boolean secret, int i) throws NoSuchElementException, IndexOutOfBoundsException {
        byte[] bytes = partOf(keys, secret);
        if (bytes == null) {
            throw new NoSuchElementException("no such keys or part");
        }
        if (i < 0 || i >= bytes.length) {
            throw new IndexOutOfBoundsException("no such byte in the part");
        }
        return bytes[i] & 0xff;
    }

    public int show(int keys, boolean secret) throws NoSuchElementException {
        byte[] bytes = partOf(keys, secret);
        if (bytes == null) {
            throw new NoSuchElementException("no such keys or part");
        }
        System.arraycopy(bytes, 0, answer, 0, bytes.length);
        answerLength = bytes.length;
        return answerLength;
    }

    public int told(int keys, int what) throws NoSuchElementException, IllegalArgumentException {
        KeyPair pair = find(keys);
        if (pair == null) {
            throw new NoSuchElementException("no such keys");
        }
        switch (what) {
            case 0:
                return pair.set;
            case 1:
                return pair.publicPart.length;
            case 2:
                return pair.secretPart == null ? 0 : pair.secretPart.length;
            default:
                throw new IllegalArgumentException("nothing of that number is told");
        }
    }

    public int seal(int keys) throws NoSuchElementException, IllegalArgumentException {
        KeyPair pair = findKem(keys);
        if (pair == null) {
            throw new NoSuchElementException("no such keys of ML-KEM");
        }
        if (tapeLength != Kem.MESSAGE_LENGTH) {
            throw new IllegalArgumentException("the tape is not 32 bytes long");
        }
        KemSet set = kemSets[pair.set];
        kem.encapsulate(set, pair.publicPart, tape, answer);
        tapeLength = 0;
        answerLength = set.cipherLength + Kem.SECRET_LENGTH;
        return answerLength;
    }

    public int open(int keys) throws NoSuchElementException, IllegalArgumentException {
        KeyPair pair = findKem(keys);
        if (pair == null || pair.secretPart == null) {
            throw new NoSuchElementException("no such keys of ML-KEM with a secret part");
        }
        KemSet set = kemSets[pair.set];
        if (tapeLength != set.cipherLength) {
            throw new IllegalArgumentException("the tape is not as long as a ciphertext");
        }
        kem.decapsulate(set, pair, tape, answer);
        tapeLength = 0;
        answerLength = Kem.SECRET_LENGTH;
        return answerLength;
    }

    public int sign(int keys, int n) throws NoSuchElementException, IllegalArgumentException, IllegalStateException {
        KeyPair pair = findDsa(keys);
        if (pair == null || pair.secretPart == null) {
            throw new NoSuchElementException("no such keys of ML-DSA with a secret part");
        }
        if (!holdsContext(Dsa.CHANCE_LENGTH, n)) {
            throw new IllegalArgumentException("a context of another length, or a short tape");
        }
        DsaSet set = dsaSets[pair.set - KEM_SETS];
        int passes = dsa.makeSignature(set, pair.secretPart, tape, tapeLength, n, answer);
        if (passes == Dsa.NO_SIGNATURE) {
            throw new IllegalStateException("no signature was found in time");
        }
        tapeLength = 0;
        answerLength = set.signatureLength;
        return passes;
    }

    public boolean verify(int keys, int n) throws NoSuchElementException, IllegalArgumentException {
        KeyPair pair = findDsa(keys);
        if (pair == null) {
            throw new NoSuchElementException("no such keys of ML-DSA");
        }
        DsaSet set = dsaSets[pair.set - KEM_SETS];
        if (!holdsContext(set.signatureLength, n)) {
            throw new IllegalArgumentException("a context of another length, or a short tape");
        }
        boolean good = dsa.accepts(set, pair.publicPart, tape, tapeLength, n);
        tapeLength = 0;
        return good;
    }

    public int hash(int what, int n) throws IllegalArgumentException {
        if (what < 0 || what > Sponge.SHAKE256 || n < 0 || n > RESULT_ROOM) {
            throw new IllegalArgumentException("no such hash or length");
        }
        answerLength = what == Sponge.SHA3_256 ? 32 : what == Sponge.SHA3_512 ? 64 : n;
        sponge.start(what);
        sponge.absorb(tape, 0, tapeLength);
        sponge.finish();
        sponge.squeeze(answer, 0, answerLength);
        tapeLength = 0;
        return answerLength;
    }

    public int result(int i) throws IndexOutOfBoundsException {
        if (i < 0 || i >= answerLength) {
            throw new IndexOutOfBoundsException("no such byte in the result");
        }
        return answer[i] & 0xff;
    }

    public int count(int what) {
        switch (what) {
            case 0:
                return tapeLength;
            case 1:
                return pairCount;
            case 2:
                return answerLength;
            default:
                return -1;
        }
    }

    private void writeNumber(int number) {
        tape[tapeLength] = (byte) (number >>> 24);
        tape[tapeLength + 1] = (byte) (number >>> 16);
        tape[tapeLength + 2] = (byte) (number >>> 8);
        tape[tapeLength + 3] = (byte) number;
        tapeLength += 4;
    }

    private static boolean isSet(int set) {
        return set >= 0 && set < ALL_SETS;
    }

    private static int seedLength(int set) {
        return set < KEM_SETS ? Kem.SEED_LENGTH : Dsa.SEED_LENGTH;
    }

    private int publicLength(int set) {
        return set < KEM_SETS ? kemSets[set].publicLength : dsaSets[set - KEM_SETS].publicLength;
    }

    private int secretLength(int set) {
        return set < KEM_SETS ? kemSets[set].secretLength : dsaSets[set - KEM_SETS].secretLength;
    }

    private boolean isLoadable(int set, boolean secret) {
        if (!isSet(set) || secret && set >= KEM_SETS) {
            return false;
        }
        return tapeLength == (secret ? secretLength(set) : publicLength(set));
    }

    private boolean isSound(KemSet set, boolean secret) {
        return secret ? kem.hashFits(set, tape) : kem.numbersFit(set, tape);
    }

    private KeyPair secretFromTape(int set) {
        int from = kemSets[set].publicPlace;
        byte[] publicPart = Arrays.copyOfRange(tape, from, from + publicLength(set));
        return new KeyPair(set, publicPart, Arrays.copyOf(tape, tapeLength));
    }

    private int keep(KeyPair pair) {
        pairs[pairCount] = pair;
        pairCount++;
        return pairCount - 1;
    }

    private KeyPair find(int number) {
        return number < 0 || number >= pairCount ? null : pairs[number];
    }

    private KeyPair findKem(int number) {
        KeyPair pair = find(number);
        return pair == null || pair.set >= KEM_SETS ? null : pair;
    }

    private KeyPair findDsa(int number) {
        KeyPair pair = find(number);
        return pair == null || pair.set < KEM_SETS ? null : pair;
    }

    private byte[] partOf(int number, boolean secret) {
        KeyPair pair = find(number);
        if (pair == null) {
            return null;
        }
        return secret ? pair.secretPart : pair.publicPart;
    }

    private boolean holdsContext(int before, int contextLength) {
        return contextLength >= 0 && contextLength <= LONGEST_CONTEXT && tapeLength >= before + contextLength;
    }

    /** Keys of one set; the secret part is null where only a public part was loaded. */
    static final class KeyPair {
        final int set;
        final byte[] publicPart;
        final byte[] secretPart;

        KeyPair(int set, byte[] publicPart, byte[] secretPart) {
            this.set = set;
            this.publicPart = publicPart;
            this.secretPart = secretPart;
        }
    }

    /** The numbers of ML-KEM-512, -768 and -1024 (FIPS 203, table 2), and the lengths that follow from them. */
    static final class KemSet {
        private static final int[] RANKS = {2, 3, 4};
        private static final int[] SECRET_NOISES = {3, 2, 2};
        private static final int[] VECTOR_BITS = {10, 10, 11};
        private static final int[] VALUE_BITS = {4, 4, 5};

        final int rank;
        final int secretNoise;
        final int vectorBits;
        final int valueBits;
        final int publicLength;
        final int secretLength;
        final int cipherLength;
        /** Where in the secret part the public part, its hash and the secret of refusal begin. */
        final int publicPlace;
        final int hashPlace;
        final int refusalPlace;

        KemSet(int index) {
            rank = RANKS[index];
            secretNoise = SECRET_NOISES[index];
            vectorBits = VECTOR_BITS[index];
            valueBits = VALUE_BITS[index];
            publicLength = Kem.POLYNOMIAL_LENGTH * rank + 32;
            cipherLength = 32 * (vectorBits * rank + valueBits);
            publicPlace = Kem.POLYNOMIAL_LENGTH * rank;
            hashPlace = publicPlace + publicLength;
            refusalPlace = hashPlace + 32;
            secretLength = refusalPlace + 32;
        }
    }

    /** The numbers of ML-DSA-44, -65 and -87 (FIPS 204, table 1), and the lengths that follow from them. */
    static final class DsaSet {
        private static final int[] ROWS = {4, 6, 8};
        private static final int[] COLUMNS = {4, 5, 7};
        private static final int[] NOISES = {2, 4, 2};
        private static final int[] NOISE_BITS = {3, 4, 3};
        private static final int[] ONES = {39, 49, 60};
        private static final int[] CHALLENGE_LENGTHS = {32, 48, 64};
        private static final int[] MASK_BITS = {18, 20, 20};
        private static final int[] STEPS = {44, 16, 16};
        private static final int[] STEP_BITS = {6, 4, 4};
        private static final int[] MOST_HINTS = {80, 55, 75};

        final int rows;
        final int columns;
        final int noise;
        final int noiseBits;
        final int ones;
        final int challengeLength;
        final int maskBits;
        final int maskTop;
        /** The range of numbers is cut into this many steps for the high bits (m in UseHint). */
        final int steps;
        final int stepBits;
        final int halfStep;
        final int mostHints;
        final int slack;
        final int publicLength;
        final int secretLength;
        final int hintPlace;
        final int signatureLength;

        DsaSet(int index) {
            rows = ROWS[index];
            columns = COLUMNS[index];
            noise = NOISES[index];
            noiseBits = NOISE_BITS[index];
            ones = ONES[index];
            challengeLength = CHALLENGE_LENGTHS[index];
            maskBits = MASK_BITS[index];
            maskTop = 1 << (maskBits - 1);
            steps = STEPS[index];
            stepBits = STEP_BITS[index];
            halfStep = (Dsa.MODULUS - 1) / steps / 2;
            mostHints = MOST_HINTS[index];
            slack = ones * noise;
            publicLength = 32 + 32 * Dsa.HIGH_BITS * rows;
            secretLength = 128 + 32 * (noiseBits * (rows + columns) + Dsa.LOW_BITS * rows);
            hintPlace = challengeLength + 32 * maskBits * columns;
            signatureLength = hintPlace + mostHints + rows;
        }

        /** HighBits: the step whose middle is nearest; the last one is the first again. */
        int high(int number) {
            int step = (number + halfStep - 1) / (2 * halfStep);
            return step == steps ? 0 : step;
        }

        /** LowBits: how far the number lies from the middle of its step. */
        int low(int number) {
            int step = (number + halfStep - 1) / (2 * halfStep);
            int rest = number - step * 2 * halfStep;
            return step == steps ? rest - 1 : rest;
        }

        /** UseHint for a number whose hint is set. */
        int hintedHigh(int number) {
            int step = high(number);
            if (low(number) > 0) {
                return step == steps - 1 ? 0 : step + 1;
            }
            return step == 0 ? steps - 1 : step - 1;
        }
    }

    /** The sponge of FIPS 202: start, absorb, finish, then squeeze. */
    static final class Sponge {
        static final int SHA3_256 = 0;
        static final int SHA3_512 = 1;
        static final int SHAKE128 = 2;
        static final int SHAKE256 = 3;

        private static final int[] RATES = {136, 72, 168, 136};
        private static final int[] SUFFIXES = {0x06, 0x06, 0x1f, 0x1f};
        private static final int ROUNDS = 24;
        private static final long[] ROUND_CONSTANTS = {
            0x0000000000000001L, 0x0000000000008082L, 0x800000000000808aL, 0x8000000080008000L,
            0x000000000000808bL, 0x0000000080000001L, 0x8000000080008081L, 0x8000000000008009L,
            0x000000000000008aL, 0x0000000000000088L, 0x0000000080008009L, 0x000000008000000aL,
            0x000000008000808bL, 0x800000000000008bL, 0x8000000000008089L, 0x8000000000008003L,
            0x8000000000008002L, 0x8000000000000080L, 0x000000000000800aL, 0x800000008000000aL,
            0x8000000080008081L, 0x8000000000008080L, 0x0000000080000001L, 0x8000000080008008L};
        /** The way of a lane through pi, from lane 1 on, and how far rho turns it on each step. */
        private static final int[] PLACES = {
            10, 7, 11, 17, 18, 3, 5, 16, 8, 21, 24, 4, 15, 23, 19, 13, 12, 2, 20, 14, 22, 9, 6, 1};
        private static final int[] TURNS = {
            1, 3, 6, 10, 15, 21, 28, 36, 45, 55, 2, 14, 27, 41, 56, 8, 25, 43, 62, 18, 39, 61, 20, 44};

        private final long[] lanes = new long[25];
        private int rate = RATES[0];
        private int suffix = SUFFIXES[0];
        private int position = 0;

        void start(int kind) {
            Arrays.fill(lanes, 0L);
            rate = RATES[kind];
            suffix = SUFFIXES[kind];
            position = 0;
        }

        void absorb(byte[] from, int at, int length) {
            for (int i = 0; i < length; i++) {
                absorbByte(from[at + i]);
            }
        }

        void absorbByte(int value) {
            mixIn(position, value);
            position++;
            if (position == rate) {
                permute();
                position = 0;
            }
        }

        void finish() {
            mixIn(position, suffix);
            mixIn(rate - 1, 0x80);
            // The first byte that is asked for must find the block used up.
            position = rate;
        }

        void squeeze(byte[] to, int at, int length) {
            for (int i = 0; i < length; i++) {
                to[at + i] = (byte) nextByte();
            }
        }

        int nextByte() {
            if (position == rate) {
                permute();
                position = 0;
            }
            int value = (int) (lanes[position >> 3] >>> ((position & 7) << 3)) & 0xff;
            position++;
            return value;
        }

        private void mixIn(int place, int value) {
            lanes[place >> 3] ^= (value & 0xffL) << ((place & 7) << 3);
        }

        /** Keccak-f: theta, rho with pi, chi and iota in one method, as it is by far the most often called. */
        private void permute() {
            long[] a = lanes;
            for (int round = 0; round < ROUNDS; round++) {
                long c0 = a[0] ^ a[5] ^ a[10] ^ a[15] ^ a[20];
                long c1 = a[1] ^ a[6] ^ a[11] ^ a[16] ^ a[21];
                long c2 = a[2] ^ a[7] ^ a[12] ^ a[17] ^ a[22];
                long c3 = a[3] ^ a[8] ^ a[13] ^ a[18] ^ a[23];
                long c4 = a[4] ^ a[9] ^ a[14] ^ a[19] ^ a[24];
                long d0 = c4 ^ (c1 << 1 | c1 >>> 63);
                long d1 = c0 ^ (c2 << 1 | c2 >>> 63);
                long d2 = c1 ^ (c3 << 1 | c3 >>> 63);
                long d3 = c2 ^ (c4 << 1 | c4 >>> 63);
                long d4 = c3 ^ (c0 << 1 | c0 >>> 63);
                for (int row = 0; row < 25; row += 5) {
                    a[row] ^= d0;
                    a[row + 1] ^= d1;
                    a[row + 2] ^= d2;
                    a[row + 3] ^= d3;
                    a[row + 4] ^= d4;
                }
                long moved = a[1];
                for (int i = 0; i < 24; i++) {
                    int place = PLACES[i];
                    long next = a[place];
                    a[place] = moved << TURNS[i] | moved >>> (64 - TURNS[i]);
                    moved = next;
                }
                for (int row = 0; row < 25; row += 5) {
                    long b0 = a[row];
                    long b1 = a[row + 1];
                    long b2 = a[row + 2];
                    long b3 = a[row + 3];
                    long b4 = a[row + 4];
                    a[row] = b0 ^ (~b1 & b2);
                    a[row + 1] = b1 ^ (~b2 & b3);
                    a[row + 2] = b2 ^ (~b3 & b4);
                    a[row + 3] = b3 ^ (~b4 & b0);
                    a[row + 4] = b4 ^ (~b0 & b1);
                }
                a[0] ^= ROUND_CONSTANTS[round];
            }
        }
    }

    /** Rows of 256 numbers of a few bits each, as bytes, the lowest bit first. */
    static final class Bits {
        static void pack(int[] numbers, int bits, byte[] to, int at) {
            int held = 0;
            int count = 0;
            int place = at;
            for (int i = 0; i < Ring.SIZE; i++) {
                held |= numbers[i] << count;
                count += bits;
                while (count >= 8) {
                    to[place] = (byte) held;
                    place++;
                    held >>>= 8;
                    count -= 8;
                }
            }
        }

        static void unpack(int[] numbers, int bits, byte[] from, int at) {
            int held = 0;
            int count = 0;
            int place = at;
            int mask = (1 << bits) - 1;
            for (int i = 0; i < Ring.SIZE; i++) {
                while (count < bits) {
                    held |= (from[place] & 0xff) << count;
                    place++;
                    count += 8;
                }
                numbers[i] = held & mask;
                held >>>= bits;
                count -= bits;
            }
        }
    }

    /** Polynomials of 256 numbers from 0 to below the modulus, and their number-theoretic transform. */
    static final class Ring {
        static final int SIZE = 256;

        private final int modulus;
        private final int layers;
        private final int scale;
        private final int[] roots;

        /** With 8 layers the transform ends in single numbers (ML-DSA), with 7 in pairs (ML-KEM). */
        Ring(int modulus, int root, int layers) {
            this.modulus = modulus;
            this.layers = layers;
            int count = 1 << layers;
            // The inverse of the count, as the count divides modulus - 1.
            this.scale = modulus - (modulus - 1) / count;
            this.roots = new int[count];
            long power = 1;
            for (int i = 0; i < count; i++) {
                roots[mirrored(i, layers)] = (int) power;
                power = power * root % modulus;
            }
        }

        private static int mirrored(int number, int bits) {
            int mirror = 0;
            for (int i = 0; i < bits; i++) {
                mirror = mirror << 1 | number >> i & 1;
            }
            return mirror;
        }

        void transform(int[] f) {
            for (int layer = 0; layer < layers; layer++) {
                int blocks = 1 << layer;
                int half = SIZE / 2 >> layer;
                for (int block = 0; block < blocks; block++) {
                    spread(f, 2 * half * block, half, roots[blocks + block]);
                }
            }
        }

        private void spread(int[] f, int start, int half, long root) {
            for (int j = start; j < start + half; j++) {
                int turned = (int) (root * f[j + half] % modulus);
                int sum = f[j] + turned;
                int difference = f[j] - turned;
                f[j] = sum >= modulus ? sum - modulus : sum;
                f[j + half] = difference < 0 ? difference + modulus : difference;
            }
        }

        void restore(int[] f) {
            for (int layer = layers - 1; layer >= 0; layer--) {
                int blocks = 1 << layer;
                int half = SIZE / 2 >> layer;
                for (int block = 0; block < blocks; block++) {
                    gather(f, 2 * half * block, half, roots[2 * blocks - 1 - block]);
                }
            }
            for (int j = 0; j < SIZE; j++) {
                f[j] = (int) ((long) f[j] * scale % modulus);
            }
        }

        private void gather(int[] f, int start, int half, long root) {
            for (int j = start; j < start + half; j++) {
                int sum = f[j] + f[j + half];
                int difference = f[j + half] - f[j] + modulus;
                f[j] = sum >= modulus ? sum - modulus : sum;
                f[j + half] = (int) (root * difference % modulus);
            }
        }

        /** Adds the product of two transformed polynomials to a third. */
        void addProduct(int[] sum, int[] f, int[] g) {
            if (layers == 8) {
                for (int j = 0; j < SIZE; j++) {
                    sum[j] = (int) ((sum[j] + (long) f[j] * g[j]) % modulus);
                }
                return;
            }
            for (int i = 0; i < SIZE / 4; i++) {
                int root = roots[SIZE / 4 + i];
                addPair(sum, f, g, 4 * i, root);
                addPair(sum, f, g, 4 * i + 2, modulus - root);
            }
        }

        private void addPair(int[] sum, int[] f, int[] g, int at, long root) {
            long corner = (long) f[at + 1] * g[at + 1] % modulus;
            long even = (long) f[at] * g[at] + corner * root;
            long odd = (long) f[at] * g[at + 1] + (long) f[at + 1] * g[at];
            sum[at] = (int) ((sum[at] + even) % modulus);
            sum[at + 1] = (int) ((sum[at + 1] + odd) % modulus);
        }

        void add(int[] to, int[] f) {
            for (int j = 0; j < SIZE; j++) {
                int sum = to[j] + f[j];
                to[j] = sum >= modulus ? sum - modulus : sum;
            }
        }

        void subtract(int[] from, int[] f) {
            for (int j = 0; j < SIZE; j++) {
                int difference = from[j] - f[j];
                from[j] = difference < 0 ? difference + modulus : difference;
            }
        }

        /** Each number's distance from a top; done twice, it gives the numbers again. */
        void flip(int[] f, int top, int[] to) {
            for (int j = 0; j < SIZE; j++) {
                int rest = top - f[j];
                to[j] = rest < 0 ? rest + modulus : rest;
            }
        }

        /** Whether every number, taken from the middle of the range, is below the bound on both sides. */
        boolean isShort(int[] f, int bound) {
            for (int j = 0; j < SIZE; j++) {
                if (f[j] >= bound && f[j] <= modulus - bound) {
                    return false;
                }
            }
            return true;
        }
    }

    /** ML-KEM: its key generation, encapsulation and decapsulation, with the scheme K-PKE under them. */
    static final class Kem {
        static final int SEED_LENGTH = 64;
        static final int MESSAGE_LENGTH = 32;
        static final int SECRET_LENGTH = 32;
        static final int POLYNOMIAL_LENGTH = 384;
        private static final int MODULUS = 3329;
        private static final int ROOT = 17;
        private static final int CIPHER_NOISE = 2;
        private static final int MOST_RANK = 4;
        private static final int MOST_CIPHER = 1568;
        private static final int MOST_TRIES = 1000000;

        private final Sponge sponge = new Sponge();
        private final Ring ring = new Ring(MODULUS, ROOT, 7);
        private final int[][] secret = new int[MOST_RANK][Ring.SIZE];
        private final int[] sum = new int[Ring.SIZE];
        private final int[] other = new int[Ring.SIZE];
        private final byte[] message = new byte[MESSAGE_LENGTH];
        private final byte[] digest = new byte[32];
        /** Two seeds of 32 bytes, as G gives them. */
        private final byte[] seeds = new byte[64];
        private final byte[] noise = new byte[192];
        private final byte[] cipherAgain = new byte[MOST_CIPHER];

        /** ML-KEM.KeyGen_internal. */
        void makePair(KemSet set, byte[] chance, byte[] publicPart, byte[] secretPart) {
            sponge.start(Sponge.SHA3_512);
            sponge.absorb(chance, 0, 32);
            sponge.absorbByte(set.rank);
            sponge.finish();
            sponge.squeeze(seeds, 0, 64);
            System.arraycopy(seeds, 0, publicPart, set.publicLength - 32, 32);
            for (int i = 0; i < set.rank; i++) {
                sampleNoise(secret[i], set.secretNoise, i);
                ring.transform(secret[i]);
                Bits.pack(secret[i], 12, secretPart, POLYNOMIAL_LENGTH * i);
            }
            for (int i = 0; i < set.rank; i++) {
                sampleNoise(sum, set.secretNoise, set.rank + i);
                ring.transform(sum);
                for (int j = 0; j < set.rank; j++) {
                    sampleEntry(publicPart, set.publicLength - 32, j, i);
                    ring.addProduct(sum, other, secret[j]);
                }
                Bits.pack(sum, 12, publicPart, POLYNOMIAL_LENGTH * i);
            }
            System.arraycopy(publicPart, 0, secretPart, set.publicPlace, set.publicLength);
            digestOf(publicPart, 0, set.publicLength);
            System.arraycopy(digest, 0, secretPart, set.hashPlace, 32);
            System.arraycopy(chance, 32, secretPart, set.refusalPlace, 32);
        }

        /** ML-KEM.Encaps_internal. */
        void encapsulate(KemSet set, byte[] publicPart, byte[] chance, byte[] to) {
            System.arraycopy(chance, 0, message, 0, MESSAGE_LENGTH);
            digestOf(publicPart, 0, set.publicLength);
            deriveSeeds(digest, 0);
            encrypt(set, publicPart, to);
            System.arraycopy(seeds, 0, to, set.cipherLength, SECRET_LENGTH);
        }

        /** ML-KEM.Decaps_internal. */
        void decapsulate(KemSet set, KeyPair pair, byte[] cipher, byte[] to) {
            decrypt(set, pair.secretPart, cipher);
            deriveSeeds(pair.secretPart, set.hashPlace);
            encrypt(set, pair.publicPart, cipherAgain);
            int difference = 0;
            for (int i = 0; i < set.cipherLength; i++) {
                difference |= cipher[i] ^ cipherAgain[i];
            }
            if (difference == 0) {
                System.arraycopy(seeds, 0, to, 0, SECRET_LENGTH);
                return;
            }
            sponge.start(Sponge.SHAKE256);
            sponge.absorb(pair.secretPart, set.refusalPlace, 32);
            sponge.absorb(cipher, 0, set.cipherLength);
            sponge.finish();
            sponge.squeeze(to, 0, SECRET_LENGTH);
        }

        /** The check of 7.2: every number of a public part is below the modulus. */
        boolean numbersFit(KemSet set, byte[] publicPart) {
            for (int i = 0; i < set.rank; i++) {
                Bits.unpack(other, 12, publicPart, POLYNOMIAL_LENGTH * i);
                for (int j = 0; j < Ring.SIZE; j++) {
                    if (other[j] >= MODULUS) {
                        return false;
                    }
                }
            }
            return true;
        }

        /** The check of 7.3: a secret part holds the hash of the public part in it. */
        boolean hashFits(KemSet set, byte[] secretPart) {
            digestOf(secretPart, set.publicPlace, set.publicLength);
            for (int i = 0; i < 32; i++) {
                if (digest[i] != secretPart[set.hashPlace + i]) {
                    return false;
                }
            }
            return true;
        }

        private void digestOf(byte[] from, int at, int length) {
            sponge.start(Sponge.SHA3_256);
            sponge.absorb(from, at, length);
            sponge.finish();
            sponge.squeeze(digest, 0, 32);
        }

        /** The shared secret and the coins of encryption, out of the message and the public part's hash. */
        private void deriveSeeds(byte[] hashed, int at) {
            sponge.start(Sponge.SHA3_512);
            sponge.absorb(message, 0, MESSAGE_LENGTH);
            sponge.absorb(hashed, at, 32);
            sponge.finish();
            sponge.squeeze(seeds, 0, 64);
        }

        /** K-PKE.Encrypt of the message, with the second seed as coins. */
        private void encrypt(KemSet set, byte[] publicPart, byte[] cipher) {
            for (int i = 0; i < set.rank; i++) {
                sampleNoise(secret[i], set.secretNoise, i);
                ring.transform(secret[i]);
            }
            for (int i = 0; i < set.rank; i++) {
                Arrays.fill(sum, 0);
                for (int j = 0; j < set.rank; j++) {
                    sampleEntry(publicPart, set.publicLength - 32, i, j);
                    ring.addProduct(sum, other, secret[j]);
                }
                ring.restore(sum);
                sampleNoise(other, CIPHER_NOISE, set.rank + i);
                ring.add(sum, other);
                writeRounded(sum, set.vectorBits, cipher, 32 * set.vectorBits * i);
            }
            Arrays.fill(sum, 0);
            for (int j = 0; j < set.rank; j++) {
                readReduced(publicPart, POLYNOMIAL_LENGTH * j);
                ring.addProduct(sum, other, secret[j]);
            }
            ring.restore(sum);
            sampleNoise(other, CIPHER_NOISE, 2 * set.rank);
            ring.add(sum, other);
            readRounded(other, 1, message, 0);
            ring.add(sum, other);
            writeRounded(sum, set.valueBits, cipher, 32 * set.vectorBits * set.rank);
        }

        /** K-PKE.Decrypt, into the message. */
        private void decrypt(KemSet set, byte[] secretPart, byte[] cipher) {
            Arrays.fill(sum, 0);
            for (int i = 0; i < set.rank; i++) {
                readRounded(secret[i], set.vectorBits, cipher, 32 * set.vectorBits * i);
                ring.transform(secret[i]);
                readReduced(secretPart, POLYNOMIAL_LENGTH * i);
                ring.addProduct(sum, other, secret[i]);
            }
            ring.restore(sum);
            readRounded(other, set.valueBits, cipher, 32 * set.vectorBits * set.rank);
            ring.subtract(other, sum);
            writeRounded(other, 1, message, 0);
        }

        /** SampleNTT: an entry of the matrix, by the two bytes behind its seed. */
        private void sampleEntry(byte[] seed, int at, int first, int second) {
            sponge.start(Sponge.SHAKE128);
            sponge.absorb(seed, at, 32);
            sponge.absorbByte(first);
            sponge.absorbByte(second);
            sponge.finish();
            int filled = 0;
            for (int tries = 0; filled < Ring.SIZE && tries < MOST_TRIES; tries++) {
                int low = sponge.nextByte();
                int middle = sponge.nextByte();
                int high = sponge.nextByte();
                int one = low | (middle & 15) << 8;
                int two = middle >> 4 | high << 4;
                if (one < MODULUS) {
                    other[filled] = one;
                    filled++;
                }
                if (two < MODULUS && filled < Ring.SIZE) {
                    other[filled] = two;
                    filled++;
                }
            }
        }

        /** SamplePolyCBD of the second seed and a byte: each number is a difference of two counts of bits. */
        private void sampleNoise(int[] f, int width, int which) {
            sponge.start(Sponge.SHAKE256);
            sponge.absorb(seeds, 32, 32);
            sponge.absorbByte(which);
            sponge.finish();
            sponge.squeeze(noise, 0, 64 * width);
            Bits.unpack(f, 2 * width, noise, 0);
            int mask = (1 << width) - 1;
            for (int j = 0; j < Ring.SIZE; j++) {
                int difference = Integer.bitCount(f[j] & mask) - Integer.bitCount(f[j] >> width);
                f[j] = difference < 0 ? difference + MODULUS : difference;
            }
        }

        /** ByteDecode_12, which takes numbers that are too large by their rest. */
        private void readReduced(byte[] from, int at) {
            Bits.unpack(other, 12, from, at);
            for (int j = 0; j < Ring.SIZE; j++) {
                other[j] = other[j] >= MODULUS ? other[j] - MODULUS : other[j];
            }
        }

        /** Compress, then ByteEncode; what stood in the polynomial is lost. */
        private void writeRounded(int[] f, int bits, byte[] to, int at) {
            int mask = (1 << bits) - 1;
            for (int j = 0; j < Ring.SIZE; j++) {
                f[j] = ((f[j] << bits) + MODULUS / 2) / MODULUS & mask;
            }
            Bits.pack(f, bits, to, at);
        }

        /** ByteDecode, then Decompress. */
        private void readRounded(int[] f, int bits, byte[] from, int at) {
            Bits.unpack(f, bits, from, at);
            for (int j = 0; j < Ring.SIZE; j++) {
                f[j] = f[j] * MODULUS + (1 << (bits - 1)) >> bits;
            }
        }
    }

    /** The samplers of ML-DSA (FIPS 204, 7.3). */
    static final class DsaSampler {
        private static final int MOST_TRIES = 1000000;

        private final Sponge sponge = new Sponge();
        private final byte[] packed = new byte[640];

        /** ExpandA: the matrix row by row, of the seed of 32 bytes that begins both parts of a key. */
        void expandMatrix(DsaSet set, byte[] seed, int[][] matrix) {
            for (int i = 0; i < set.rows; i++) {
                for (int j = 0; j < set.columns; j++) {
                    sampleEntry(matrix[set.columns * i + j], seed, j, i);
                }
            }
        }

        /** RejNTTPoly. */
        private void sampleEntry(int[] f, byte[] seed, int first, int second) {
            sponge.start(Sponge.SHAKE128);
            sponge.absorb(seed, 0, 32);
            sponge.absorbByte(first);
            sponge.absorbByte(second);
            sponge.finish();
            int filled = 0;
            for (int tries = 0; filled < Ring.SIZE && tries < MOST_TRIES; tries++) {
                int number = sponge.nextByte();
                number |= sponge.nextByte() << 8;
                number |= (sponge.nextByte() & 0x7f) << 16;
                if (number < Dsa.MODULUS) {
                    f[filled] = number;
                    filled++;
                }
            }
        }

        /** RejBoundedPoly of the seed of 64 bytes at a place. */
        void sampleSmall(DsaSet set, int[] f, byte[] seed, int at, int which) {
            startNumbered(seed, at, which);
            int filled = 0;
            for (int tries = 0; filled < Ring.SIZE && tries < MOST_TRIES; tries++) {
                int value = sponge.nextByte();
                filled = putSmall(set.noise, f, filled, value & 15);
                filled = putSmall(set.noise, f, filled, value >> 4);
            }
        }

        /** CoeffFromHalfByte: how many numbers there are when the half byte has been looked at. */
        private int putSmall(int width, int[] f, int filled, int half) {
            int bound = width == 2 ? 15 : 9;
            if (half >= bound || filled >= Ring.SIZE) {
                return filled;
            }
            int number = width - (width == 2 ? half % 5 : half);
            f[filled] = number < 0 ? number + Dsa.MODULUS : number;
            return filled + 1;
        }

        /** One polynomial of ExpandMask, as it is packed: by its distance from the top of the mask. */
        void sampleMask(DsaSet set, int[] f, byte[] seed, int which) {
            startNumbered(seed, 0, which);
            sponge.squeeze(packed, 0, 32 * set.maskBits);
            Bits.unpack(f, set.maskBits, packed, 0);
        }

        private void startNumbered(byte[] seed, int at, int which) {
            sponge.start(Sponge.SHAKE256);
            sponge.absorb(seed, at, 64);
            sponge.absorbByte(which);
            sponge.absorbByte(which >> 8);
            sponge.finish();
        }

        /** SampleInBall. */
        void sampleBall(DsaSet set, int[] f, byte[] seed) {
            sponge.start(Sponge.SHAKE256);
            sponge.absorb(seed, 0, set.challengeLength);
            sponge.finish();
            long signs = 0;
            for (int i = 0; i < 8; i++) {
                signs |= (long) sponge.nextByte() << (8 * i);
            }
            Arrays.fill(f, 0);
            for (int i = Ring.SIZE - set.ones; i < Ring.SIZE; i++) {
                int place = sponge.nextByte();
                for (int tries = 0; place > i && tries < MOST_TRIES; tries++) {
                    place = sponge.nextByte();
                }
                f[i] = f[place];
                f[place] = (signs & 1) == 0 ? 1 : Dsa.MODULUS - 1;
                signs >>>= 1;
            }
        }
    }

    /** ML-DSA: its key generation, signing and verification. */
    static final class Dsa {
        static final int SEED_LENGTH = 32;
        static final int CHANCE_LENGTH = 32;
        static final int NO_SIGNATURE = 0;
        static final int MODULUS = 8380417;
        static final int HIGH_BITS = 10;
        static final int LOW_BITS = 13;
        private static final int ROOT = 1753;
        private static final int MOST_ROWS = 8;
        private static final int MOST_COLUMNS = 7;
        private static final int MOST_PASSES = 200;
        /** Where in the secret part the key of signing, the public part's hash and the vectors begin. */
        private static final int KEY_PLACE = 32;
        private static final int HASH_PLACE = 64;
        private static final int VECTOR_PLACE = 128;

        private final Sponge sponge = new Sponge();
        private final Ring ring = new Ring(MODULUS, ROOT, 8);
        private final DsaSampler sampler = new DsaSampler();
        private final int[][] matrix = new int[MOST_ROWS * MOST_COLUMNS][Ring.SIZE];
        private final int[][] secret = new int[MOST_COLUMNS][Ring.SIZE];
        private final int[][] error = new int[MOST_ROWS][Ring.SIZE];
        private final int[][] lowPart = new int[MOST_ROWS][Ring.SIZE];
        /** The mask while signing, to which the secret's share is added to make the answer. */
        private final int[][] mask = new int[MOST_COLUMNS][Ring.SIZE];
        private final int[][] product = new int[MOST_ROWS][Ring.SIZE];
        private final int[] ball = new int[Ring.SIZE];
        private final int[] work = new int[Ring.SIZE];
        private final byte[] seeds = new byte[128];
        private final byte[] digest = new byte[64];
        private final byte[] challenge = new byte[64];
        private final byte[] challengeAgain = new byte[64];
        private final byte[] hints = new byte[84];
        private final byte[] packed = new byte[192];

        /** ML-DSA.KeyGen_internal. */
        void makePair(DsaSet set, byte[] chance, byte[] publicPart, byte[] secretPart) {
            sponge.start(Sponge.SHAKE256);
            sponge.absorb(chance, 0, SEED_LENGTH);
            sponge.absorbByte(set.rows);
            sponge.absorbByte(set.columns);
            sponge.finish();
            sponge.squeeze(seeds, 0, 128);
            System.arraycopy(seeds, 0, publicPart, 0, 32);
            System.arraycopy(seeds, 0, secretPart, 0, 32);
            System.arraycopy(seeds, 96, secretPart, KEY_PLACE, 32);
            writeSmallVectors(set, secretPart);
            sampler.expandMatrix(set, publicPart, matrix);
            for (int j = 0; j < set.columns; j++) {
                ring.transform(secret[j]);
            }
            int lowPlace = VECTOR_PLACE + 32 * set.noiseBits * (set.rows + set.columns);
            for (int i = 0; i < set.rows; i++) {
                multiplyRow(set, i, secret);
                ring.restore(product[i]);
                ring.add(product[i], error[i]);
                splitRow(product[i]);
                Bits.pack(product[i], HIGH_BITS, publicPart, 32 + 32 * HIGH_BITS * i);
                Bits.pack(work, LOW_BITS, secretPart, lowPlace + 32 * LOW_BITS * i);
            }
            digestOf(publicPart);
            System.arraycopy(digest, 0, secretPart, HASH_PLACE, 64);
        }

        /** ExpandS, and both vectors into the secret part. */
        private void writeSmallVectors(DsaSet set, byte[] secretPart) {
            int length = 32 * set.noiseBits;
            for (int i = 0; i < set.columns + set.rows; i++) {
                int[] f = i < set.columns ? secret[i] : error[i - set.columns];
                sampler.sampleSmall(set, f, seeds, 32, i);
                ring.flip(f, set.noise, work);
                Bits.pack(work, set.noiseBits, secretPart, VECTOR_PLACE + length * i);
            }
        }

        /** Power2Round: the high part stays, the low part goes to the work row in the form in which it is packed. */
        private void splitRow(int[] f) {
            int top = 1 << (LOW_BITS - 1);
            for (int j = 0; j < Ring.SIZE; j++) {
                int low = f[j] & 2 * top - 1;
                low = low > top ? low - 2 * top : low;
                work[j] = top - low;
                f[j] = f[j] - low >> LOW_BITS;
            }
        }

        /**
         * Algorithm 2 with the chance that begins the tape: how often the loop was gone through,
         * or NO_SIGNATURE; nothing is written then.
         */
        int makeSignature(DsaSet set, byte[] secretPart, byte[] tape, int length, int contextLength, byte[] to) {
            readSecret(set, secretPart);
            System.arraycopy(secretPart, HASH_PLACE, digest, 0, 64);
            digestMessage(tape, CHANCE_LENGTH, length, contextLength);
            sponge.start(Sponge.SHAKE256);
            sponge.absorb(secretPart, KEY_PLACE, 32);
            sponge.absorb(tape, 0, CHANCE_LENGTH);
            sponge.absorb(digest, 0, 64);
            sponge.finish();
            sponge.squeeze(seeds, 0, 64);
            for (int pass = 1; pass <= MOST_PASSES; pass++) {
                commit(set, set.columns * (pass - 1));
                if (answerIsShort(set) && restIsShort(set) && makeHints(set)) {
                    writeSignature(set, to);
                    return pass;
                }
            }
            return NO_SIGNATURE;
        }

        /** skDecode, the matrix, and the vectors transformed. */
        private void readSecret(DsaSet set, byte[] secretPart) {
            sampler.expandMatrix(set, secretPart, matrix);
            int place = VECTOR_PLACE;
            for (int j = 0; j < set.columns; j++) {
                readFlipped(secret[j], set.noiseBits, set.noise, secretPart, place);
                ring.transform(secret[j]);
                place += 32 * set.noiseBits;
            }
            for (int i = 0; i < set.rows; i++) {
                readFlipped(error[i], set.noiseBits, set.noise, secretPart, place);
                ring.transform(error[i]);
                place += 32 * set.noiseBits;
            }
            for (int i = 0; i < set.rows; i++) {
                readFlipped(lowPart[i], LOW_BITS, 1 << (LOW_BITS - 1), secretPart, place);
                ring.transform(lowPart[i]);
                place += 32 * LOW_BITS;
            }
        }

        /** BitUnpack. */
        private void readFlipped(int[] f, int bits, int top, byte[] from, int at) {
            Bits.unpack(f, bits, from, at);
            ring.flip(f, top, f);
        }

        private void digestOf(byte[] publicPart) {
            sponge.start(Sponge.SHAKE256);
            sponge.absorb(publicPart, 0, publicPart.length);
            sponge.finish();
            sponge.squeeze(digest, 0, 64);
        }

        /** The digest of the public part becomes that of the message under it (mu). */
        private void digestMessage(byte[] tape, int from, int to, int contextLength) {
            sponge.start(Sponge.SHAKE256);
            sponge.absorb(digest, 0, 64);
            sponge.absorbByte(0);
            sponge.absorbByte(contextLength);
            sponge.absorb(tape, from, to - from);
            sponge.finish();
            sponge.squeeze(digest, 0, 64);
        }

        /** A fresh mask, its product with the matrix, and the challenge that follows from that. */
        private void commit(DsaSet set, int count) {
            for (int i = 0; i < set.rows; i++) {
                Arrays.fill(product[i], 0);
            }
            for (int j = 0; j < set.columns; j++) {
                sampler.sampleMask(set, mask[j], seeds, count + j);
                ring.flip(mask[j], set.maskTop, mask[j]);
                System.arraycopy(mask[j], 0, work, 0, Ring.SIZE);
                ring.transform(work);
                for (int i = 0; i < set.rows; i++) {
                    ring.addProduct(product[i], matrix[set.columns * i + j], work);
                }
            }
            startChallenge();
            for (int i = 0; i < set.rows; i++) {
                ring.restore(product[i]);
                for (int j = 0; j < Ring.SIZE; j++) {
                    work[j] = set.high(product[i][j]);
                }
                absorbHigh(set);
            }
            sponge.finish();
            sponge.squeeze(challenge, 0, set.challengeLength);
            sampler.sampleBall(set, ball, challenge);
            ring.transform(ball);
        }

        private void startChallenge() {
            sponge.start(Sponge.SHAKE256);
            sponge.absorb(digest, 0, 64);
        }

        /** One polynomial of w1Encode, out of the work row. */
        private void absorbHigh(DsaSet set) {
            Bits.pack(work, set.stepBits, packed, 0);
            sponge.absorb(packed, 0, 32 * set.stepBits);
        }

        private void multiplyRow(DsaSet set, int row, int[][] vector) {
            Arrays.fill(product[row], 0);
            for (int j = 0; j < set.columns; j++) {
                ring.addProduct(product[row], matrix[set.columns * row + j], vector[j]);
            }
        }

        /** The challenge times a transformed polynomial, into the work row. */
        private void multiplyBall(int[] f) {
            Arrays.fill(work, 0);
            ring.addProduct(work, ball, f);
            ring.restore(work);
        }

        private boolean answerIsShort(DsaSet set) {
            for (int j = 0; j < set.columns; j++) {
                multiplyBall(secret[j]);
                ring.add(mask[j], work);
                if (!ring.isShort(mask[j], set.maskTop - set.slack)) {
                    return false;
                }
            }
            return true;
        }

        /** Takes the challenge's share of the error away from the product and looks at the low bits. */
        private boolean restIsShort(DsaSet set) {
            int bound = set.halfStep - set.slack;
            for (int i = 0; i < set.rows; i++) {
                multiplyBall(error[i]);
                ring.subtract(product[i], work);
                for (int j = 0; j < Ring.SIZE; j++) {
                    int low = set.low(product[i][j]);
                    if (low >= bound || low <= -bound) {
                        return false;
                    }
                }
            }
            return true;
        }

        /** MakeHint and HintBitPack: false where the low part's share is too long or the hints are too many. */
        private boolean makeHints(DsaSet set) {
            Arrays.fill(hints, (byte) 0);
            int count = 0;
            for (int i = 0; i < set.rows; i++) {
                multiplyBall(lowPart[i]);
                if (!ring.isShort(work, set.halfStep)) {
                    return false;
                }
                ring.add(work, product[i]);
                for (int j = 0; j < Ring.SIZE; j++) {
                    if (set.high(work[j]) != set.high(product[i][j])) {
                        if (count >= set.mostHints) {
                            return false;
                        }
                        hints[count] = (byte) j;
                        count++;
                    }
                }
                hints[set.mostHints + i] = (byte) count;
            }
            return true;
        }

        /** sigEncode. */
        private void writeSignature(DsaSet set, byte[] to) {
            System.arraycopy(challenge, 0, to, 0, set.challengeLength);
            for (int j = 0; j < set.columns; j++) {
                ring.flip(mask[j], set.maskTop, work);
                Bits.pack(work, set.maskBits, to, set.challengeLength + 32 * set.maskBits * j);
            }
            System.arraycopy(hints, 0, to, set.hintPlace, set.mostHints + set.rows);
        }

        /** Algorithm 3: the tape is a signature, a context and a message. */
        boolean accepts(DsaSet set, byte[] publicPart, byte[] tape, int length, int contextLength) {
            if (!readSignature(set, tape)) {
                return false;
            }
            digestOf(publicPart);
            digestMessage(tape, set.signatureLength, length, contextLength);
            sampler.expandMatrix(set, publicPart, matrix);
            sampler.sampleBall(set, ball, challenge);
            ring.transform(ball);
            for (int j = 0; j < set.columns; j++) {
                ring.transform(mask[j]);
            }
            startChallenge();
            int first = 0;
            for (int i = 0; i < set.rows; i++) {
                int end = hints[set.mostHints + i] & 0xff;
                rebuildRow(set, publicPart, i);
                useHints(set, product[i], first, end);
                absorbHigh(set);
                first = end;
            }
            sponge.finish();
            sponge.squeeze(challengeAgain, 0, set.challengeLength);
            return challengesAgree(set);
        }

        /** sigDecode: false where the hints are not of their form or the answer is too long. */
        private boolean readSignature(DsaSet set, byte[] tape) {
            System.arraycopy(tape, 0, challenge, 0, set.challengeLength);
            System.arraycopy(tape, set.hintPlace, hints, 0, set.mostHints + set.rows);
            if (!hintsAreInForm(set)) {
                return false;
            }
            for (int j = 0; j < set.columns; j++) {
                readFlipped(mask[j], set.maskBits, set.maskTop, tape, set.challengeLength + 32 * set.maskBits * j);
                if (!ring.isShort(mask[j], set.maskTop - set.slack)) {
                    return false;
                }
            }
            return true;
        }

        /** The checks of HintBitUnpack: places rise within a row, and what is not used is zero. */
        private boolean hintsAreInForm(DsaSet set) {
            int first = 0;
            for (int i = 0; i < set.rows; i++) {
                int end = hints[set.mostHints + i] & 0xff;
                if (end < first || end > set.mostHints) {
                    return false;
                }
                for (int k = first + 1; k < end; k++) {
                    if ((hints[k - 1] & 0xff) >= (hints[k] & 0xff)) {
                        return false;
                    }
                }
                first = end;
            }
            for (int k = first; k < set.mostHints; k++) {
                if (hints[k] != 0) {
                    return false;
                }
            }
            return true;
        }

        /** A row of the product as the verifier sees it: without the challenge's share of the high part. */
        private void rebuildRow(DsaSet set, byte[] publicPart, int row) {
            multiplyRow(set, row, mask);
            Bits.unpack(work, HIGH_BITS, publicPart, 32 + 32 * HIGH_BITS * row);
            for (int j = 0; j < Ring.SIZE; j++) {
                work[j] <<= LOW_BITS;
            }
            ring.transform(work);
            Arrays.fill(lowPart[row], 0);
            ring.addProduct(lowPart[row], ball, work);
            ring.subtract(product[row], lowPart[row]);
            ring.restore(product[row]);
        }

        /** UseHint over a row, with the hints from first to before end, into the work row. */
        private void useHints(DsaSet set, int[] f, int first, int end) {
            for (int j = 0; j < Ring.SIZE; j++) {
                work[j] = set.high(f[j]);
            }
            for (int k = first; k < end; k++) {
                int place = hints[k] & 0xff;
                work[place] = set.hintedHigh(f[place]);
            }
        }

        private boolean challengesAgree(DsaSet set) {
            for (int i = 0; i < set.challengeLength; i++) {
                if (challenge[i] != challengeAgain[i]) {
                    return false;
                }
            }
            return true;
        }
    }
}
