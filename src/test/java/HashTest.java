/** Promise 15: hash. */
public final class HashTest {
    public static void main(String[] args) {
        sha3IsTheLibrarys();
        shakeIsAsDue();
        longTapesAreHashedWhole();
        theLengthIsLookedAtForAll();
        wrongKindsAreRefused();
        aHashTakesTheTape();
        Check.finish();
    }

    /** Around each block's end, where the padding changes its form. */
    private static void sha3IsTheLibrarys() {
        for (int length : new int[] {0, 1, 2, 8, 71, 72, 73, 135, 136, 137, 143, 144, 145, 271, 272, 273, 408, 1000}) {
            byte[] bytes = Check.stream("sha3", length);
            Desk desk = new Desk().tape(bytes);
            Check.same("hash(0, 0) of " + length, desk.next().hash(0, 0), 32);
            Check.same("SHA3-256 of " + length, desk.resultHex(), Check.hex(Check.sha3(bytes)));
            desk.tape(bytes);
            Check.same("hash(1, 8192) of " + length, desk.next().hash(1, 8192), 64);
            Check.same("SHA3-512 of " + length, desk.resultHex(), Check.hex(Check.digest("SHA3-512", bytes)));
        }
    }

    private static void shakeIsAsDue() {
        for (String[] due : Vectors.SHAKE) {
            int kind = Integer.parseInt(due[0]);
            int length = Integer.parseInt(due[1]);
            int n = Integer.parseInt(due[2]);
            String what = "hash(" + kind + ", " + n + ") of " + length;
            Desk desk = new Desk().tape(Check.stream("shake", length));
            Check.same(what, desk.next().hash(kind, n), n);
            Check.same(what + ", bytes", desk.resultDigest(), due[3]);
        }
        Desk desk = new Desk();
        desk.next().hash(2, 16);
        Check.same("SHAKE128 of nothing", desk.resultHex(), "7f9c2ba4e88f827d616045507605853e");
        desk.next().hash(3, 16);
        Check.same("SHAKE256 of nothing", desk.resultHex(), "46b9dd2b0ba88d13233b3feb743eeb24");
    }

    private static void longTapesAreHashedWhole() {
        for (String[] due : Vectors.LONG_INPUT) {
            int kind = Integer.parseInt(due[0]);
            int length = Integer.parseInt(due[1]);
            Desk desk = new Desk().fill(length);
            Check.same("hash of " + length, desk.next().hash(kind, 8191), kind == 0 ? 32 : kind == 1 ? 64 : 8191);
            Check.same("hash " + kind + " of " + length + ", bytes", desk.resultDigest(), due[2]);
        }
    }

    private static void theLengthIsLookedAtForAll() {
        Desk desk = new Desk().tape(Check.stream("tape", 9));
        for (int kind = 0; kind < 4; kind++) {
            for (int n : new int[] {-1, 8193, Integer.MIN_VALUE, Integer.MAX_VALUE}) {
                int what = kind;
                Check.refused("hash(" + kind + ", " + n + ")", IllegalArgumentException.class,
                        () -> desk.next().hash(what, n));
            }
        }
        Check.same("lengths after it", desk.lengths(), "9 0 0");
        Check.same("hash(2, 8192)", desk.next().hash(2, 8192), 8192);
        Check.same("hash(3, 0)", desk.next().hash(3, 0), 0);
        Check.same("the result is empty", desk.lengths(), "0 0 0");
        Check.same("hash(0, 8192)", desk.next().hash(0, 8192), 32);
        Check.same("hash(1, 0)", desk.next().hash(1, 0), 64);
    }

    private static void wrongKindsAreRefused() {
        Desk desk = new Desk();
        desk.next().hash(0, 0);
        desk.tape(Check.stream("tape", 9));
        for (int kind : new int[] {-1, 4, 5, Integer.MIN_VALUE, Integer.MAX_VALUE}) {
            Check.refused("hash(" + kind + ", 32)", IllegalArgumentException.class, () -> desk.next().hash(kind, 32));
        }
        Check.same("the tape stays", desk.tapeHex(), Check.hex(Check.stream("tape", 9)));
        Check.same("the result stays", desk.resultHex(), Check.hex(Check.sha3(new byte[0])));
    }

    private static void aHashTakesTheTape() {
        Desk desk = new Desk().tape(Check.stream("tape", 9));
        desk.next().hash(0, 5);
        Check.same("lengths after a hash", desk.lengths(), "0 0 32");
        desk.next().hash(0, 5);
        Check.same("the next hash is of nothing", desk.resultHex(), Check.hex(Check.sha3(new byte[0])));
    }
}
