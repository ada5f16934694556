import java.util.Arrays;
import java.util.Base64;
import java.util.NoSuchElementException;

/** The boundary cases of promises 11 and 12: a test for each sentence that names one. */
public final class KemEdgeTest {
    private static final int LEAST = Integer.MIN_VALUE;
    private static final int MOST = Integer.MAX_VALUE;

    public static void main(String[] args) {
        for (int set = 0; set < 3; set++) {
            sealTakesThirtyTwoBytes(set);
            theOutermostMessagesComeBack(set);
            openTakesACiphertextsLength(set);
            aByteAlteredGivesAnotherSecret(set);
            aBitAlteredGivesAnotherSecret(set);
            theOutermostCiphertextsAreTurned(set);
            bitsTurnAtTheQuartersOfTheModulus(set);
        }
        for (String[] due : Vectors.KEM_ROUND) {
            numbersAreRoundedAsDue(due);
        }
        sealNeedsKeysOfItsKind();
        openNeedsKeysOfItsKindWithASecretPart();
        Check.finish();
    }

    /** Keys 0, 1, 2 of ML-KEM and 3, 4 of ML-DSA with both parts, 5 and 6 the public parts of 0 and 3 alone. */
    private static void layKeys(Desk desk) {
        for (int set = 0; set < 5; set++) {
            desk.quickKeys(set);
        }
        desk.loadPublic(0);
        desk.loadPublic(3);
        desk.result(77);
    }

    /** 11: "The TAPE, 32 bytes, is m: the RESULT is the ciphertext, then the shared secret (32 bytes): its length." */
    private static void sealTakesThirtyTwoBytes(int set) {
        for (int length : new int[] {0, 1, 31, 33, 64, Sizes.TAPE}) {
            new Refusal("set " + set + ", a tape of " + length, desk -> {
                desk.quickKeys(set);
                desk.fill(length);
            }).of("seal", IllegalArgumentException.class, keys -> keys.seal(0));
        }
        Desk desk = new Desk();
        desk.quickKeys(set);
        desk.fill(32);
        Check.same("set " + set + ", seal of 32", desk.next().seal(0), Sizes.CIPHER[set] + 32);
        Check.same("lengths after it", desk.lengths(), "0 1 " + (Sizes.CIPHER[set] + 32));
        Check.refused("a byte behind the secret", IndexOutOfBoundsException.class,
                () -> desk.next().result(Sizes.CIPHER[set] + 32));
    }

    private static void theOutermostMessagesComeBack(int set) {
        for (int value : new int[] {0, 255}) {
            byte[] message = new byte[32];
            Arrays.fill(message, (byte) value);
            Desk desk = new Desk();
            desk.quickKeys(set);
            desk.tape(message).next().seal(0);
            int last = desk.next().result(Sizes.CIPHER[set] + 31);
            int first = desk.next().result(Sizes.CIPHER[set]);
            desk.next().again();
            desk.next().end(Sizes.CIPHER[set]);
            Check.same("set " + set + ", open", desk.next().open(0), 32);
            Check.same("the secret of a message of " + value, desk.next().result(0) << 8 | desk.next().result(31),
                    first << 8 | last);
            Check.same("lengths after it", desk.lengths(), "0 1 32");
        }
    }

    /** 11: "NoSuchElementException: no such KEYS of ML-KEM"; and it comes before "another length". */
    private static void sealNeedsKeysOfItsKind() {
        for (int length : new int[] {31, 32}) {
            Refusal refusal = new Refusal("7 keys and a tape of " + length, desk -> {
                layKeys(desk);
                desk.tape(Check.stream("message", length));
            });
            for (int number : new int[] {-1, 3, 4, 6, 7, 8, LEAST, MOST}) {
                refusal.of("seal(" + number + ")", NoSuchElementException.class, keys -> keys.seal(number));
            }
            if (length == 32) {
                refusal.butNot("seal(0)", 800, keys -> keys.seal(0))
                        .butNot("seal(2)", 1600, keys -> keys.seal(2))
                        .butNot("seal(5), a public part", 800, keys -> keys.seal(5));
            }
        }
    }

    /** 12: "The TAPE is a ciphertext"; "IllegalArgumentException: another length." */
    private static void openTakesACiphertextsLength(int set) {
        int due = Sizes.CIPHER[set];
        int other = Sizes.CIPHER[(set + 1) % 3];
        for (int length : new int[] {0, 1, 32, due - 1, due + 1, due + 32, other, Sizes.TAPE}) {
            new Refusal("set " + set + ", a tape of " + length, desk -> {
                desk.quickKeys(set);
                desk.fill(length);
            }).of("open", IllegalArgumentException.class, keys -> keys.open(0));
        }
        new Refusal("set " + set + ", a tape of " + due, desk -> {
            desk.quickKeys(set);
            desk.fill(due);
        }).butNot("open", 32, keys -> keys.open(0));
    }

    /** 12: "NoSuchElementException: no such KEYS of ML-KEM with a secret part"; it comes before "another length". */
    private static void openNeedsKeysOfItsKindWithASecretPart() {
        for (int length : new int[] {767, 768}) {
            Refusal refusal = new Refusal("7 keys and a tape of " + length, desk -> {
                layKeys(desk);
                desk.fill(length);
            });
            for (int number : new int[] {-1, 3, 4, 5, 6, 7, 8, LEAST, MOST}) {
                refusal.of("open(" + number + ")", NoSuchElementException.class, keys -> keys.open(number));
            }
            if (length == 768) {
                refusal.butNot("open(0)", 32, keys -> keys.open(0));
                refusal.of("open(1)", IllegalArgumentException.class, keys -> keys.open(1));
            }
        }
    }

    /** What it is: "what is altered ... turned into another secret": each byte of a ciphertext. */
    private static void aByteAlteredGivesAnotherSecret(int set) {
        Desk desk = null;
        for (int at = 0; at < Sizes.CIPHER[set]; at++) {
            if (at % 20 == 0) {
                desk = new Desk();
                desk.quickKeys(set);
            }
            openAltered(desk, set, at, 1 << at % 8);
        }
    }

    /** The same for each bit at the ends of a ciphertext and of its two parts: a low bit leaves the message alone. */
    private static void aBitAlteredGivesAnotherSecret(int set) {
        int parts = Sizes.CIPHER[set] - (set < 2 ? 128 : 160);
        for (int at : new int[] {0, 1, parts - 1, parts, Sizes.CIPHER[set] - 2, Sizes.CIPHER[set] - 1}) {
            Desk desk = new Desk();
            desk.quickKeys(set);
            for (int bit = 0; bit < 8; bit++) {
                openAltered(desk, set, at, 1 << bit);
            }
        }
    }

    private static void openAltered(Desk desk, int set, int at, int with) {
        String what = "set " + set + ", byte " + at + " altered by " + with + ": ";
        desk.tape(Check.stream("message", 32));
        desk.next().seal(0);
        desk.next().again();
        String secret = desk.tapeHex(Sizes.CIPHER[set], 6);
        desk.next().end(Sizes.CIPHER[set]);
        desk.next().alter(at, with);
        Check.same(what + "open", desk.next().open(0), 32);
        Check.same(what + "the same secret", secret.equals(desk.resultHex(6)), false);
    }

    /** 12, of ciphertexts that no one has sealed: the secret is the hash of the secret part's end and of them. */
    private static void theOutermostCiphertextsAreTurned(int set) {
        for (int value : new int[] {0, 255}) {
            byte[] cipher = new byte[Sizes.CIPHER[set]];
            Arrays.fill(cipher, (byte) value);
            Desk desk = new Desk();
            desk.quickKeys(set);
            desk.tape(cipher);
            desk.next().open(0);
            String got = desk.resultHex();
            Desk hashing = new Desk();
            hashing.quickKeys(set);
            hashing.tape(Check.join(hashing.partsEnd(0, true, 32), cipher));
            hashing.next().hash(3, 32);
            Check.same("set " + set + ", a ciphertext of " + value, got, hashing.resultHex());
        }
    }

    /** A secret part that brings every bit of a message just to the number at which it would turn. */
    private static void bitsTurnAtTheQuartersOfTheModulus(int set) {
        Desk desk = new Desk();
        desk.quickKeys(set);
        byte[] numbers = Arrays.copyOf(Base64.getDecoder().decode(Vectors.KEM_EDGE_SECRETS[set]), Sizes.numbers(set));
        byte[] end = desk.partsEnd(0, true, 64);
        desk.tape(numbers).next().show(0, false);
        desk.next().again();
        Check.same("set " + set + ": a secret part at the edge", desk.write(end).next().load(set, true), 1);
        desk.tape(Check.stream("edge message " + set, 32)).next().seal(0);
        desk.next().again();
        String secret = desk.tapeHex(Sizes.CIPHER[set], 32);
        desk.next().end(Sizes.CIPHER[set]);
        desk.next().open(1);
        Check.same("set " + set + ": every bit is read aright", desk.resultHex(), secret);
    }

    private static void numbersAreRoundedAsDue(String[] due) {
        Desk desk = new Desk();
        desk.quickKeys(Integer.parseInt(due[0]));
        desk.tape(Check.stream("round message " + due[0] + " " + due[1], 32)).next().seal(0);
        Check.same("set " + due[0] + ": a number at the end of a step", desk.resultDigest(), due[2]);
    }
}
