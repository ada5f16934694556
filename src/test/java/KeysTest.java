/** Promises 6, 8, 9 and 10: keys, part, show and told. Their boundaries are in KeysEdgeTest. */
public final class KeysTest {
    public static void main(String[] args) {
        for (String[] due : Vectors.KEM) {
            keysAreAsDue(due, "kem keys ", 64, due[2], due[3]);
        }
        for (String[] due : Vectors.DSA) {
            keysAreAsDue(due, "dsa keys ", 32, due[4], due[5]);
        }
        for (String[] due : Vectors.MATRIX) {
            theModulusIsNoNumber(due);
        }
        for (String[] due : Vectors.ZERO_KEYS) {
            keysAreAsDue(due, "zero keys ", 32, due[2], due[3]);
        }
        partGivesBytes();
        showGivesParts();
        toldTellsOfKeys();
        Check.finish();
    }

    private static void keysAreAsDue(String[] due, String label, int length, String publicDue, String secretDue) {
        int set = Integer.parseInt(due[0]);
        String what = "set " + set + " case " + due[1] + ": ";
        Desk desk = new Desk();
        desk.next().hash(0, 0);
        desk.tape(Check.stream(label + due[0] + " " + due[1], length));
        Check.same(what + "keys", desk.next().keys(set), 0);
        Check.same(what + "the tape is taken, the result stays", desk.lengths(), "0 1 32");
        Check.same(what + "the result's bytes stay", desk.resultHex(), Check.hex(Check.sha3(new byte[0])));
        Check.same(what + "public part", desk.partDigest(0, false), publicDue);
        Check.same(what + "secret part", desk.partDigest(0, true), secretDue);
    }

    private static void theModulusIsNoNumber(String[] due) {
        Desk desk = new Desk().tape(Check.stream("matrix keys " + due[0] + " " + due[1], 32));
        desk.next().keys(Integer.parseInt(due[0]));
        Check.same("set " + due[0] + ": the modulus is drawn", desk.partDigest(0, false), due[2]);
    }

    private static void partGivesBytes() {
        Desk desk = new Desk();
        for (int set = 0; set < 6; set++) {
            int number = desk.quickKeys(set);
            for (boolean secret : new boolean[] {false, true}) {
                int length = desk.next().show(number, secret);
                for (int i : new int[] {7, 127, 128, length / 2, length - 33}) {
                    Check.same("set " + set + (secret ? " secret" : " public") + " byte " + i,
                            desk.next().part(number, secret, i), desk.next().result(i));
                }
            }
        }
        Check.same("lengths after it", desk.lengths(), "0 6 4896");
    }

    private static void showGivesParts() {
        Desk desk = new Desk();
        for (int set = 0; set < 6; set++) {
            int number = desk.quickKeys(set);
            for (boolean secret : new boolean[] {false, true}) {
                int length = Sizes.part(set, secret);
                Check.same("show of set " + set, desk.next().show(number, secret), length);
                Check.same("its length", desk.next().count(2), length);
            }
        }
        desk.tape(Check.stream("tape", 9));
        desk.next().show(0, false);
        Check.same("show leaves the tape", desk.tapeHex(), Check.hex(Check.stream("tape", 9)));
    }

    private static void toldTellsOfKeys() {
        Desk desk = new Desk();
        for (int set = 0; set < 6; set++) {
            int number = desk.quickKeys(set);
            Check.same("told(" + number + ", 0)", desk.next().told(number, 0), set);
            Check.same("told(" + number + ", 1)", desk.next().told(number, 1), Sizes.PUBLIC[set]);
            Check.same("told(" + number + ", 2)", desk.next().told(number, 2), Sizes.SECRET[set]);
        }
    }
}
