import java.util.Base64;
import java.util.NoSuchElementException;

/** Promises 11 and 12: seal and open. Their boundaries are in KemEdgeTest. */
public final class KemTest {
    public static void main(String[] args) {
        for (String[] due : Vectors.KEM) {
            sealingAndOpeningAreAsDue(due);
        }
        for (String[] due : Vectors.KEM_WILD) {
            numbersAreTakenByTheirRest(due);
        }
        for (int set = 0; set < 3; set++) {
            whatIsAlteredGivesTheSecretOfRefusal(set);
            aPublicPartSealsAlone(set);
        }
        keysDoNotMix();
        Check.finish();
    }

    private static void sealingAndOpeningAreAsDue(String[] due) {
        int set = Integer.parseInt(due[0]);
        int cipher = Sizes.CIPHER[set];
        String name = due[0] + " " + due[1];
        String what = "set " + set + " case " + due[1] + ": ";
        Desk desk = new Desk().tape(Check.stream("kem keys " + name, 64));
        desk.next().keys(set);
        desk.tape(Check.stream("kem message " + name, 32));
        Check.same(what + "seal", desk.next().seal(0), cipher + 32);
        Check.same(what + "lengths", desk.lengths(), "0 1 " + (cipher + 32));
        Check.same(what + "ciphertext and secret", desk.resultDigest(), due[4]);
        sealAgain(desk, name, cipher);
        Check.same(what + "open", desk.next().open(0), 32);
        Check.same(what + "secret", desk.resultHex(), due[5]);
        Check.same(what + "lengths after it", desk.lengths(), "0 1 32");
        sealAgain(desk, name, cipher);
        desk.next().alter(17 * Integer.parseInt(due[1]), 0x20);
        Check.same(what + "open what is altered", desk.next().open(0), 32);
        Check.same(what + "another secret", desk.resultHex(), due[6]);
    }

    /** The tape is the ciphertext of a case. */
    private static void sealAgain(Desk desk, String name, int cipher) {
        desk.tape(Check.stream("kem message " + name, 32));
        desk.next().seal(0);
        desk.next().again();
        desk.next().end(cipher);
    }

    private static void numbersAreTakenByTheirRest(String[] due) {
        int set = Integer.parseInt(due[0]);
        byte[] wild = Check.stream("wild public " + set, Sizes.PUBLIC[set]);
        Desk desk = new Desk().tape(Check.join(
                Check.stream("wild secret " + set, Sizes.PUBLIC[set] - 32), wild,
                Check.sha3(wild), Check.stream("wild refusal " + set, 32)));
        desk.next().load(set, true);
        desk.tape(Check.stream("wild message " + set, 32));
        desk.next().seal(0);
        Check.same("wild set " + set + ": ciphertext and secret", desk.resultDigest(), due[1]);
        desk.tape(Check.stream("wild message " + set, 32));
        desk.next().seal(0);
        desk.next().again();
        desk.next().end(Sizes.CIPHER[set]);
        desk.next().open(0);
        Check.same("wild set " + set + ": secret", desk.resultHex(), due[2]);
    }

    private static void whatIsAlteredGivesTheSecretOfRefusal(int set) {
        for (int at : new int[] {0, 1, Sizes.CIPHER[set] / 2, Sizes.CIPHER[set] - 128, Sizes.CIPHER[set] - 1}) {
            Desk desk = new Desk();
            desk.quickKeys(set);
            layCiphertext(desk, set, new byte[0], at);
            desk.next().open(0);
            Check.same("set " + set + ", byte " + at + " altered", desk.resultHex(), refusal(set, at));
        }
    }

    /** SHAKE256 of the secret part's last 32 bytes and the altered ciphertext. */
    private static String refusal(int set, int at) {
        Desk desk = new Desk();
        desk.quickKeys(set);
        layCiphertext(desk, set, desk.partsEnd(0, true, 32), at);
        desk.next().hash(3, 32);
        return desk.resultHex();
    }

    /** The tape is some bytes and a ciphertext with a byte altered. */
    private static void layCiphertext(Desk desk, int set, byte[] before, int at) {
        desk.tape(Check.stream("message", 32)).next().seal(0);
        desk.tape(before).next().again();
        desk.next().end(before.length + Sizes.CIPHER[set]);
        desk.next().alter(before.length + at, 0x80);
    }

    private static void aPublicPartSealsAlone(int set) {
        Desk desk = new Desk();
        desk.quickKeys(set);
        desk.next().show(0, false);
        desk.next().again();
        desk.next().load(set, false);
        desk.next().show(0, true);
        desk.next().again();
        desk.next().load(set, true);
        for (int number = 0; number < 3; number++) {
            desk.tape(Check.stream("message", 32));
            desk.next().seal(number);
            String sealed = desk.resultDigest();
            desk.tape(Check.stream("message", 32));
            desk.next().seal(0);
            Check.same("set " + set + ": keys " + number + " seal alike", sealed, desk.resultDigest());
        }
        desk.fill(Sizes.CIPHER[set]);
        Check.refused("set " + set + ": no secret part to open", NoSuchElementException.class,
                () -> desk.next().open(1));
        desk.next().open(2);
        String byLoaded = desk.resultHex();
        desk.fill(Sizes.CIPHER[set]);
        desk.next().open(0);
        Check.same("set " + set + ": a loaded secret part opens alike", byLoaded, desk.resultHex());
    }

    /** Nothing of one set's or key's work is left for the next. */
    private static void keysDoNotMix() {
        Desk desk = new Desk();
        int[] cases = {0, 8, 4, 1, 7, 3};
        for (int i : cases) {
            desk.tape(Check.stream("kem keys " + Vectors.KEM[i][0] + " " + Vectors.KEM[i][1], 64));
            desk.next().keys(Integer.parseInt(Vectors.KEM[i][0]));
        }
        for (int number = cases.length - 1; number > 0; number--) {
            String[] due = Vectors.KEM[cases[number]];
            desk.tape(Check.stream("kem message " + due[0] + " " + due[1], 32));
            desk.next().seal(number);
            Check.same("keys " + number + ": ciphertext and secret", desk.resultDigest(), due[4]);
        }
        desk.tape(Base64.getDecoder().decode(Vectors.KEM_CIPHER));
        desk.next().open(0);
        Check.same("keys 0 after the others' work", desk.resultHex(), Vectors.KEM[0][5]);
    }
}
