import java.util.NoSuchElementException;

/** Promises 6, 8, 9 and 10: keys, part, show and told. */
public final class KeysTest {
    static final int[] PUBLIC = {800, 1184, 1568, 1312, 1952, 2592};
    static final int[] SECRET = {1632, 2400, 3168, 2560, 4032, 4896};

    public static void main(String[] args) {
        for (String[] due : Vectors.KEM) {
            keysAreAsDue(due, "kem keys ", 64, due[2], due[3]);
        }
        for (String[] due : Vectors.DSA) {
            keysAreAsDue(due, "dsa keys ", 32, due[4], due[5]);
        }
        for (String[] due : Vectors.MATRIX) {
            theModulusIsNoNumber(due);
        }
        otherSetsAndLengthsAreRefused();
        eightAreTheMost();
        partGivesBytes();
        showGivesParts();
        toldTellsOfKeys();
        Check.finish();
    }

    private static void keysAreAsDue(String[] due, String label, int length, String publicDue, String secretDue) {
        int set = Integer.parseInt(due[0]);
        String what = "set " + set + " case " + due[1] + ": ";
        Desk desk = new Desk();
        desk.next().hash(0, 0);
        desk.tape(Check.stream(label + due[0] + " " + due[1], length));
        Check.same(what + "keys", desk.next().keys(set), 0);
        Check.same(what + "the tape is taken, the result stays", desk.lengths(), "0 1 32");
        Check.same(what + "the result's bytes stay", desk.resultHex(), Check.hex(Check.sha3(new byte[0])));
        Check.same(what + "public part", desk.partDigest(0, false), publicDue);
        Check.same(what + "secret part", desk.partDigest(0, true), secretDue);
    }

    private static void theModulusIsNoNumber(String[] due) {
        Desk desk = new Desk().tape(Check.stream("matrix keys " + due[0] + " " + due[1], 32));
        desk.next().keys(Integer.parseInt(due[0]));
        Check.same("set " + due[0] + ": the modulus is drawn", desk.partDigest(0, false), due[2]);
    }

    private static void otherSetsAndLengthsAreRefused() {
        for (int set = -1; set <= 6; set++) {
            for (int length : new int[] {0, 31, 32, 33, 63, 64, 65}) {
                if (set >= 0 && set < 6 && length == (set < 3 ? 64 : 32)) {
                    continue;
                }
                Desk desk = new Desk().tape(Check.stream("seed", length));
                int number = set;
                Check.refused("keys(" + set + ") of " + length, IllegalArgumentException.class,
                        () -> desk.next().keys(number));
                Check.same("lengths after it", desk.lengths(), length + " 0 0");
            }
        }
        Desk desk = new Desk().tape(Check.stream("seed", 64));
        Check.refused("keys of the least", IllegalArgumentException.class, () -> desk.next().keys(Integer.MIN_VALUE));
        Check.refused("keys of the most", IllegalArgumentException.class, () -> desk.next().keys(Integer.MAX_VALUE));
        Check.same("the tape stays", desk.tapeDigest(), Check.hex(Check.sha3(Check.stream("seed", 64))));
    }

    private static void eightAreTheMost() {
        Desk desk = new Desk();
        for (int i = 0; i < 8; i++) {
            Check.same("keys number " + i, desk.quickKeys(i % 6), i);
        }
        Check.refused("no tape and 8 keys: the length comes first", IllegalArgumentException.class,
                () -> desk.next().keys(0));
        desk.tape(Check.stream("seed", 64));
        Check.refused("another set and 8 keys: the set comes first", IllegalArgumentException.class,
                () -> desk.next().keys(6));
        Check.refused("the ninth keys", IllegalStateException.class, () -> desk.next().keys(0));
        Check.same("lengths after it", desk.lengths(), "64 8 64");
        Check.same("the tape stays", desk.tapeDigest(), Check.hex(Check.sha3(Check.stream("seed", 64))));
        for (int i = 0; i < 8; i++) {
            Check.same("the set of number " + i, desk.next().told(i, 0), i % 6);
        }
    }

    private static void partGivesBytes() {
        Desk desk = new Desk();
        for (int set = 0; set < 6; set++) {
            int number = desk.quickKeys(set);
            for (boolean secret : new boolean[] {false, true}) {
                int length = secret ? SECRET[set] : PUBLIC[set];
                String what = "set " + set + (secret ? " secret" : " public");
                desk.next().show(number, secret);
                for (int i : new int[] {0, 1, 31, 32, 127, length / 2, length - 1}) {
                    Check.same(what + " byte " + i, desk.next().part(number, secret, i), desk.next().result(i));
                }
                for (int i : new int[] {-1, length, Integer.MIN_VALUE, Integer.MAX_VALUE}) {
                    Check.refused(what + " byte " + i, IndexOutOfBoundsException.class,
                            () -> desk.next().part(number, secret, i));
                }
            }
        }
        for (int number : new int[] {-1, 6, 7, 8, Integer.MIN_VALUE, Integer.MAX_VALUE}) {
            Check.refused("part of keys " + number, NoSuchElementException.class,
                    () -> desk.next().part(number, false, -1));
        }
        Check.same("lengths after it", desk.lengths(), "0 6 4896");
    }

    private static void showGivesParts() {
        Desk desk = new Desk();
        for (int set = 0; set < 6; set++) {
            int number = desk.quickKeys(set);
            Check.same("show public of set " + set, desk.next().show(number, false), PUBLIC[set]);
            Check.same("its length", desk.next().count(2), PUBLIC[set]);
            Check.same("show secret of set " + set, desk.next().show(number, true), SECRET[set]);
            Check.same("its length", desk.next().count(2), SECRET[set]);
        }
        desk.tape(Check.stream("tape", 9));
        desk.next().show(0, false);
        Check.same("show leaves the tape", desk.tapeHex(), Check.hex(Check.stream("tape", 9)));
        for (int number : new int[] {-1, 6, 8, Integer.MIN_VALUE, Integer.MAX_VALUE}) {
            Check.refused("show of keys " + number, NoSuchElementException.class,
                    () -> desk.next().show(number, false));
        }
        Check.same("the result stays", desk.lengths(), "9 6 800");
    }

    private static void toldTellsOfKeys() {
        Desk desk = new Desk();
        for (int set = 0; set < 6; set++) {
            int number = desk.quickKeys(set);
            Check.same("told(" + number + ", 0)", desk.next().told(number, 0), set);
            Check.same("told(" + number + ", 1)", desk.next().told(number, 1), PUBLIC[set]);
            Check.same("told(" + number + ", 2)", desk.next().told(number, 2), SECRET[set]);
        }
        for (int what : new int[] {-1, 3, Integer.MIN_VALUE, Integer.MAX_VALUE}) {
            Check.refused("told(0, " + what + ")", IllegalArgumentException.class, () -> desk.next().told(0, what));
            Check.refused("told(6, " + what + ")", NoSuchElementException.class, () -> desk.next().told(6, what));
        }
        Check.refused("told(-1, 0)", NoSuchElementException.class, () -> desk.next().told(-1, 0));
        Check.refused("told(8, 0)", NoSuchElementException.class, () -> desk.next().told(8, 0));
    }
}
