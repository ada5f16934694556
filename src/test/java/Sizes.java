/** Lengths in bytes by set (FIPS 203, table 3; FIPS 204, table 2), and the limits of the document. */
final class Sizes {
    static final int TAPE = 16384;
    static final int RESULT = 8192;
    static final int MOST_KEYS = 8;
    static final int MOST_CONTEXT = 255;
    static final int[] PUBLIC = {800, 1184, 1568, 1312, 1952, 2592};
    static final int[] SECRET = {1632, 2400, 3168, 2560, 4032, 4896};
    static final int[] CIPHER = {768, 1088, 1568};
    static final int[] SIGNATURE = {0, 0, 0, 2420, 3309, 4627};

    private Sizes() {
    }

    static int seed(int set) {
        return set < 3 ? 64 : 32;
    }

    static int part(int set, boolean secret) {
        return (secret ? SECRET : PUBLIC)[set];
    }

    /** Where in a secret part of ML-KEM the public part begins; so many bytes of numbers begin a public part, too. */
    static int numbers(int set) {
        return PUBLIC[set] - 32;
    }
}
