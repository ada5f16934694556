/** The boundary cases of promise 15: a test for each sentence that names one. */
public final class HashEdgeTest {
    private static final int LEAST = Integer.MIN_VALUE;
    private static final int MOST = Integer.MAX_VALUE;

    public static void main(String[] args) {
        fourKindsAreKnown();
        theLengthGoesFromZeroToTheRoom();
        theLengthIsLookedAtWhereItDoesNotCount();
        anEmptyTapeAndAFullOneAreHashed();
        theShortestAndTheLongestOutput();
        Check.finish();
    }

    private static void lay(Desk desk, int length) {
        desk.quickKeys(3);
        desk.result(77).tape(Check.stream("tape", length));
    }

    /** "IllegalArgumentException: another what". */
    private static void fourKindsAreKnown() {
        Refusal refusal = new Refusal("a tape of 9", desk -> lay(desk, 9));
        for (int what : new int[] {-1, 4, 5, 256, LEAST, MOST}) {
            for (int n : new int[] {-1, 0, 32, Sizes.RESULT, Sizes.RESULT + 1}) {
                refusal.of("hash(" + what + ", " + n + ")", IllegalArgumentException.class, keys -> keys.hash(what, n));
            }
        }
        refusal.butNot("hash(0, 32)", 32, keys -> keys.hash(0, 32));
        refusal.butNot("hash(3, 32)", 32, keys -> keys.hash(3, 32));
    }

    /** "n bytes of SHAKE128 (2), SHAKE256 (3), n from 0 to 8,192"; "another ... n". */
    private static void theLengthGoesFromZeroToTheRoom() {
        for (int length : new int[] {0, 9}) {
            Refusal refusal = new Refusal("a tape of " + length, desk -> lay(desk, length));
            for (int kind : new int[] {2, 3}) {
                for (int n : new int[] {-1, Sizes.RESULT + 1, Sizes.TAPE, LEAST, MOST}) {
                    refusal.of("hash(" + kind + ", " + n + ")", IllegalArgumentException.class,
                            keys -> keys.hash(kind, n));
                }
                for (int n : new int[] {0, 1, Sizes.RESULT - 1, Sizes.RESULT}) {
                    refusal.butNot("hash(" + kind + ", " + n + ")", n, keys -> keys.hash(kind, n));
                }
            }
        }
    }

    /** "(also of 0 and 1, of which it is 32 and 64 bytes) (n is looked at there, too): its length." */
    private static void theLengthIsLookedAtWhereItDoesNotCount() {
        Refusal refusal = new Refusal("a tape of 9", desk -> lay(desk, 9));
        for (int kind : new int[] {0, 1}) {
            for (int n : new int[] {-1, Sizes.RESULT + 1, LEAST, MOST}) {
                refusal.of("hash(" + kind + ", " + n + ")", IllegalArgumentException.class, keys -> keys.hash(kind, n));
            }
            for (int n : new int[] {0, 1, 31, 32, 33, 63, 64, 65, Sizes.RESULT}) {
                String call = "hash(" + kind + ", " + n + ")";
                refusal.butNot(call, kind == 0 ? 32 : 64, keys -> keys.hash(kind, n));
                Desk desk = new Desk().tape(Check.stream("tape", 9));
                desk.next().hash(kind, n);
                Check.same(call + ", lengths", desk.lengths(), "0 0 " + (kind == 0 ? 32 : 64));
                Check.same(call + ", bytes", desk.resultHex(),
                        Check.hex(Check.digest(kind == 0 ? "SHA3-256" : "SHA3-512", Check.stream("tape", 9))));
            }
        }
    }

    /** "The TAPE is hashed": from no byte to all that it can hold. */
    private static void anEmptyTapeAndAFullOneAreHashed() {
        String[] empty = {"a7ffc6f8bf1ed76651c14756a061d662", "a69f73cca23a9ac5c8b567dc185a756e",
            "7f9c2ba4e88f827d616045507605853e", "46b9dd2b0ba88d13233b3feb743eeb24"};
        for (int kind = 0; kind < 4; kind++) {
            Desk desk = new Desk();
            desk.next().hash(kind, 64);
            Check.same("hash " + kind + " of nothing", desk.resultHex().substring(0, 32), empty[kind]);
        }
        for (String[] due : Vectors.LONG_INPUT) {
            int kind = Integer.parseInt(due[0]);
            Desk desk = new Desk().fill(Integer.parseInt(due[1]));
            desk.next().hash(kind, 8191);
            Check.same("lengths after it", desk.lengths(), "0 0 " + (kind == 0 ? 32 : kind == 1 ? 64 : 8191));
            Check.same("hash " + kind + " of " + due[1], desk.resultDigest(), due[2]);
        }
    }

    /** An empty result is a result, and a longer output begins as a shorter one does. */
    private static void theShortestAndTheLongestOutput() {
        for (int kind : new int[] {2, 3}) {
            Desk desk = new Desk().fill(100);
            Check.same("no byte of hash " + kind, desk.next().hash(kind, 0), 0);
            Check.same("lengths after it", desk.lengths(), "0 0 0");
            Check.refused("its result", IndexOutOfBoundsException.class, () -> desk.next().result(0));
            desk.fill(100).next().hash(kind, Sizes.RESULT);
            Check.same("lengths after all bytes", desk.lengths(), "0 0 8192");
            String start = desk.resultHex(20);
            desk.next().again();
            desk.next().end(Sizes.RESULT - 1);
            String whole = desk.tapeDigest();
            desk.fill(100).next().hash(kind, 20);
            Check.same("20 bytes begin as 8,192 do", desk.resultHex(20), start);
            desk.fill(100).next().hash(kind, Sizes.RESULT - 1);
            Check.same("8,191 bytes are the first of 8,192", desk.resultDigest(), whole);
        }
    }
}
