import java.util.Base64;
import java.util.NoSuchElementException;

/** Promises 11 and 12: seal and open. */
public final class KemTest {
    private static final int[] CIPHER = {768, 1088, 1568};

    public static void main(String[] args) {
        for (String[] due : Vectors.KEM) {
            sealingAndOpeningAreAsDue(due);
        }
        for (String[] due : Vectors.KEM_WILD) {
            numbersAreTakenByTheirRest(due);
        }
        for (int set = 0; set < 3; set++) {
            everyAlteredByteGivesAnotherSecret(set);
            otherLengthsAreRefused(set);
            aPublicPartSealsAlone(set);
        }
        keysDoNotMix();
        otherKeysAreRefused();
        Check.finish();
    }

    private static void sealingAndOpeningAreAsDue(String[] due) {
        int set = Integer.parseInt(due[0]);
        int cipher = CIPHER[set];
        String name = due[0] + " " + due[1];
        String what = "set " + set + " case " + due[1] + ": ";
        Desk desk = new Desk().tape(Check.stream("kem keys " + name, 64));
        desk.next().keys(set);
        desk.tape(Check.stream("kem message " + name, 32));
        Check.same(what + "seal", desk.next().seal(0), cipher + 32);
        Check.same(what + "lengths", desk.lengths(), "0 1 " + (cipher + 32));
        Check.same(what + "ciphertext and secret", desk.resultDigest(), due[4]);
        sealAgain(desk, name, cipher);
        Check.same(what + "open", desk.next().open(0), 32);
        Check.same(what + "secret", desk.resultHex(), due[5]);
        Check.same(what + "lengths after it", desk.lengths(), "0 1 32");
        sealAgain(desk, name, cipher);
        desk.next().alter(17 * Integer.parseInt(due[1]), 0x20);
        Check.same(what + "open what is altered", desk.next().open(0), 32);
        Check.same(what + "another secret", desk.resultHex(), due[6]);
    }

    /** The tape is the ciphertext of a case. */
    private static void sealAgain(Desk desk, String name, int cipher) {
        desk.tape(Check.stream("kem message " + name, 32));
        desk.next().seal(0);
        desk.next().again();
        desk.next().end(cipher);
    }

    private static void numbersAreTakenByTheirRest(String[] due) {
        int set = Integer.parseInt(due[0]);
        byte[] wild = Check.stream("wild public " + set, KeysTest.PUBLIC[set]);
        Desk desk = new Desk().tape(Check.join(
                Check.stream("wild secret " + set, KeysTest.PUBLIC[set] - 32), wild,
                Check.sha3(wild), Check.stream("wild refusal " + set, 32)));
        desk.next().load(set, true);
        desk.tape(Check.stream("wild message " + set, 32));
        desk.next().seal(0);
        Check.same("wild set " + set + ": ciphertext and secret", desk.resultDigest(), due[1]);
        desk.tape(Check.stream("wild message " + set, 32));
        desk.next().seal(0);
        desk.next().again();
        desk.next().end(CIPHER[set]);
        desk.next().open(0);
        Check.same("wild set " + set + ": secret", desk.resultHex(), due[2]);
    }

    private static void everyAlteredByteGivesAnotherSecret(int set) {
        for (int at : new int[] {0, 1, CIPHER[set] / 2, CIPHER[set] - 128, CIPHER[set] - 1}) {
            String what = "set " + set + ", byte " + at + " altered";
            Desk desk = new Desk();
            desk.quickKeys(set);
            desk.tape(Check.stream("message", 32));
            desk.next().seal(0);
            desk.next().again();
            int secret = desk.tapeByte(CIPHER[set]) << 8 | desk.tapeByte(CIPHER[set] + 1);
            desk.next().end(CIPHER[set]);
            desk.next().alter(at, 0x80);
            desk.next().open(0);
            int altered = desk.next().result(0) << 8 | desk.next().result(1);
            Check.same(what + ": the same secret", altered == secret, false);
            Check.same(what + ": the secret of refusal", altered, refusal(desk, set, at));
        }
    }

    /** The first two bytes of SHAKE256 of the secret part's last 32 bytes and the altered ciphertext. */
    private static int refusal(Desk desk, int set, int at) {
        byte[] last = new byte[32];
        for (int i = 0; i < 32; i++) {
            last[i] = (byte) desk.next().part(0, true, KeysTest.SECRET[set] - 32 + i);
        }
        desk.tape(Check.stream("message", 32));
        desk.next().seal(0);
        desk.tape(last);
        desk.next().again();
        desk.next().end(32 + CIPHER[set]);
        desk.next().alter(32 + at, 0x80);
        desk.next().hash(3, 32);
        return desk.next().result(0) << 8 | desk.next().result(1);
    }

    private static void otherLengthsAreRefused(int set) {
        Desk desk = new Desk();
        desk.quickKeys(set);
        for (int length : new int[] {0, 31, 33, 64}) {
            desk.tape(Check.stream("message", length));
            Check.refused("seal of " + length, IllegalArgumentException.class, () -> desk.next().seal(0));
            Check.same("lengths after it", desk.lengths(), length + " 1 64");
        }
        for (int length : new int[] {0, 32, CIPHER[set] - 1, CIPHER[set] + 1, CIPHER[set] + 32}) {
            desk.fill(length);
            Check.refused("open of " + length, IllegalArgumentException.class, () -> desk.next().open(0));
            Check.same("lengths after it", desk.lengths(), length + " 1 8192");
        }
    }

    private static void aPublicPartSealsAlone(int set) {
        Desk desk = new Desk();
        desk.quickKeys(set);
        desk.next().show(0, false);
        desk.next().again();
        desk.next().load(set, false);
        desk.next().show(0, true);
        desk.next().again();
        desk.next().load(set, true);
        for (int number = 0; number < 3; number++) {
            desk.tape(Check.stream("message", 32));
            desk.next().seal(number);
            String sealed = desk.resultDigest();
            desk.tape(Check.stream("message", 32));
            desk.next().seal(0);
            Check.same("set " + set + ": keys " + number + " seal alike", sealed, desk.resultDigest());
        }
        desk.fill(CIPHER[set]);
        Check.refused("set " + set + ": no secret part to open", NoSuchElementException.class,
                () -> desk.next().open(1));
        desk.next().open(2);
        String byLoaded = desk.resultHex();
        desk.fill(CIPHER[set]);
        desk.next().open(0);
        Check.same("set " + set + ": a loaded secret part opens alike", byLoaded, desk.resultHex());
    }

    /** Nothing of one set's or key's work is left for the next. */
    private static void keysDoNotMix() {
        Desk desk = new Desk();
        int[] cases = {0, 8, 4, 1, 7, 3};
        for (int i : cases) {
            desk.tape(Check.stream("kem keys " + Vectors.KEM[i][0] + " " + Vectors.KEM[i][1], 64));
            desk.next().keys(Integer.parseInt(Vectors.KEM[i][0]));
        }
        for (int number = cases.length - 1; number > 0; number--) {
            String[] due = Vectors.KEM[cases[number]];
            desk.tape(Check.stream("kem message " + due[0] + " " + due[1], 32));
            desk.next().seal(number);
            Check.same("keys " + number + ": ciphertext and secret", desk.resultDigest(), due[4]);
        }
        desk.tape(Base64.getDecoder().decode(Vectors.KEM_CIPHER));
        desk.next().open(0);
        Check.same("keys 0 after the others' work", desk.resultHex(), Vectors.KEM[0][5]);
    }

    private static void otherKeysAreRefused() {
        Desk desk = new Desk();
        desk.quickKeys(3);
        desk.quickKeys(4);
        desk.quickKeys(5);
        desk.tape(Check.stream("message", 32));
        for (int number : new int[] {-1, 0, 1, 2, 3, 8, Integer.MIN_VALUE, Integer.MAX_VALUE}) {
            Check.refused("seal(" + number + ")", NoSuchElementException.class, () -> desk.next().seal(number));
            Check.refused("open(" + number + ")", NoSuchElementException.class, () -> desk.next().open(number));
        }
        Check.same("the tape stays", desk.tapeHex(), Check.hex(Check.stream("message", 32)));
        desk.next().end(7);
        Check.refused("keys come before length in seal", NoSuchElementException.class, () -> desk.next().seal(9));
        Check.refused("keys come before length in open", NoSuchElementException.class, () -> desk.next().open(9));
    }
}
