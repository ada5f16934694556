/** Promise 15: hash. Its boundaries are in HashEdgeTest. */
public final class HashTest {
    public static void main(String[] args) {
        sha3IsTheLibrarys();
        shakeIsAsDue();
        Check.finish();
    }

    /** Around each block's end, where the padding changes its form. */
    private static void sha3IsTheLibrarys() {
        for (int length : new int[] {0, 1, 2, 8, 71, 72, 73, 135, 136, 137, 143, 144, 145, 271, 272, 273, 408, 1000}) {
            byte[] bytes = Check.stream("sha3", length);
            Desk desk = new Desk().tape(bytes);
            Check.same("hash(0, 0) of " + length, desk.next().hash(0, 0), 32);
            Check.same("SHA3-256 of " + length, desk.resultHex(), Check.hex(Check.sha3(bytes)));
            desk.tape(bytes);
            Check.same("hash(1, 8192) of " + length, desk.next().hash(1, 8192), 64);
            Check.same("SHA3-512 of " + length, desk.resultHex(), Check.hex(Check.digest("SHA3-512", bytes)));
        }
    }

    private static void shakeIsAsDue() {
        for (String[] due : Vectors.SHAKE) {
            int kind = Integer.parseInt(due[0]);
            int length = Integer.parseInt(due[1]);
            int n = Integer.parseInt(due[2]);
            String what = "hash(" + kind + ", " + n + ") of " + length;
            Desk desk = new Desk().tape(Check.stream("shake", length));
            Check.same(what, desk.next().hash(kind, n), n);
            Check.same(what + ", bytes", desk.resultDigest(), due[3]);
        }
    }
}
