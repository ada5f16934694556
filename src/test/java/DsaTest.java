import java.lang.reflect.Field;
import java.util.Arrays;
import java.util.Base64;
import java.util.NoSuchElementException;

/** Promises 13 and 14: sign and verify. */
public final class DsaTest {
    private static final int[] SIGNATURE = {0, 0, 0, 2420, 3309, 4627};
    private static final int[] ROWS = {0, 0, 0, 4, 6, 8};
    private static final int[] MOST_HINTS = {0, 0, 0, 80, 55, 75};

    public static void main(String[] args) throws ReflectiveOperationException {
        for (String[] due : Vectors.DSA) {
            signaturesAreAsDue(due);
        }
        for (String[] due : Vectors.EDGES) {
            edgesOfTheLoopAreAsDue(due);
        }
        for (String[] due : Vectors.TOO_LONG) {
            anAnswerAtTheBoundIsRefused(due);
        }
        aHintAtZeroLowersTheStep();
        keysDoNotMix();
        for (int set = 3; set < 6; set++) {
            whatIsAlteredIsRefused(set);
            theContextIsBound(set);
            hintsHaveOneForm(set);
            aPublicPartVerifiesAlone(set);
            wrongSigningIsRefused(set);
            wrongVerifyingIsRefused(set);
        }
        otherKeysAreRefused();
        tooLongALoopIsGivenUp();
        Check.finish();
    }

    private static void signaturesAreAsDue(String[] due) {
        int set = Integer.parseInt(due[0]);
        int n = Integer.parseInt(due[2]);
        int length = n + Integer.parseInt(due[3]);
        String name = due[0] + " " + due[1];
        String what = "set " + set + " case " + due[1] + ": ";
        byte[] tape = Check.stream("dsa tape " + name, 32 + length);
        Desk desk = new Desk().tape(Check.stream("dsa keys " + name, 32));
        desk.next().keys(set);
        desk.tape(tape);
        Check.same(what + "sign", desk.next().sign(0, n), Integer.parseInt(due[6]));
        Check.same(what + "lengths", desk.lengths(), "0 1 " + SIGNATURE[set]);
        desk.next().again();
        desk.write(Arrays.copyOfRange(tape, 32, tape.length));
        Check.same(what + "verify", desk.next().verify(0, n), true);
        Check.same(what + "verify takes the tape alone", desk.lengths(), "0 1 " + SIGNATURE[set]);
        Check.same(what + "signature", desk.resultDigest(), due[7]);
    }

    private static void edgesOfTheLoopAreAsDue(String[] due) {
        int set = Integer.parseInt(due[0]);
        String what = "edge of set " + set + " case " + due[1] + ": ";
        Desk desk = edgeDesk(set);
        desk.tape(Check.stream("edge chance " + due[1], 32));
        Check.same(what + "sign", desk.next().sign(0, 0), Integer.parseInt(due[2]));
        desk.next().again();
        Check.same(what + "verify", desk.next().verify(0, 0), true);
        Check.same(what + "signature", desk.resultDigest(), due[3]);
    }

    private static Desk edgeDesk(int set) {
        Desk desk = new Desk().tape(Check.stream("edge keys " + set, 32));
        desk.next().keys(set);
        return desk;
    }

    /** A desk whose result is a signature of a context of 3 bytes and a message of 9. */
    private static Desk signed(int set) {
        Desk desk = edgeDesk(set);
        desk.tape(Check.join(Check.stream("chance", 32), Check.stream("text", 12)));
        desk.next().sign(0, 3);
        return desk;
    }

    /** The tape is signature, context and message. */
    private static void lay(Desk desk) {
        desk.next().end(0);
        desk.next().again();
        desk.write(Check.stream("text", 12));
    }

    private static void whatIsAlteredIsRefused(int set) {
        Desk desk = signed(set);
        int end = SIGNATURE[set] + 12;
        for (int at : new int[] {0, 31, 64, 700, SIGNATURE[set] / 2, SIGNATURE[set], SIGNATURE[set] + 2,
            SIGNATURE[set] + 3, end - 1}) {
            lay(desk);
            desk.next().alter(at, 4);
            Check.same("set " + set + " altered at " + at, desk.next().verify(0, 3), false);
            Check.same("lengths after it", desk.lengths(), "0 1 " + SIGNATURE[set]);
        }
        lay(desk);
        desk.next().end(end - 1);
        Check.same("set " + set + ": a shorter message", desk.next().verify(0, 3), false);
        lay(desk);
        desk.write(new byte[1]);
        Check.same("set " + set + ": a longer message", desk.next().verify(0, 3), false);
        lay(desk);
        Check.same("set " + set + ": the right one", desk.next().verify(0, 3), true);
        desk.fill(SIGNATURE[set]);
        Check.same("set " + set + ": any bytes", desk.next().verify(0, 0), false);
        desk.tape(new byte[SIGNATURE[set]]);
        Check.same("set " + set + ": zeros", desk.next().verify(0, 0), false);
    }

    private static void theContextIsBound(int set) {
        Desk desk = signed(set);
        for (int n = 0; n <= 12; n++) {
            lay(desk);
            Check.same("set " + set + ": a context of " + n, desk.next().verify(0, n), n == 3);
        }
        byte[] text = Check.stream("long text", 255);
        desk.tape(Check.join(Check.stream("chance", 32), text));
        desk.next().sign(0, 255);
        desk.next().again();
        desk.write(text);
        Check.same("set " + set + ": a context of 255 and no message", desk.next().verify(0, 255), true);
        desk.next().again();
        desk.write(text);
        Check.same("set " + set + ": the same as a message", desk.next().verify(0, 0), false);
    }

    /** Each altered form tells the same hints, so that only the form's test refuses it. */
    private static void hintsHaveOneForm(int set) {
        Desk desk = signed(set);
        int ends = SIGNATURE[set] - ROWS[set];
        int places = ends - MOST_HINTS[set];
        lay(desk);
        int first = desk.tapeByte(ends);
        int all = desk.tapeByte(ends + ROWS[set] - 1);
        Check.same("set " + set + ": there are hints to turn round", first > 1 && all < MOST_HINTS[set], true);
        swap(desk, places, places + 1);
        Check.same("set " + set + ": hints out of order", desk.next().verify(0, 3), false);
        lay(desk);
        for (int i = all; i > 0; i--) {
            put(desk, places + i, desk.tapeByte(places + i - 1));
        }
        for (int row = 0; row < ROWS[set]; row++) {
            put(desk, ends + row, desk.tapeByte(ends + row) + 1);
        }
        Check.same("set " + set + ": a hint twice", desk.next().verify(0, 3), false);
        for (int at : new int[] {all, MOST_HINTS[set] - 1}) {
            lay(desk);
            put(desk, places + at, 1);
            Check.same("set " + set + ": a byte behind the hints", desk.next().verify(0, 3), false);
        }
        for (int row = 0; row < ROWS[set]; row++) {
            for (int end : new int[] {0, MOST_HINTS[set] + 1, 128, 255}) {
                lay(desk);
                put(desk, ends + row, end);
                Check.same("set " + set + ": hints of row " + row + " to " + end, desk.next().verify(0, 3), false);
            }
        }
    }

    private static void swap(Desk desk, int one, int other) {
        int difference = desk.tapeByte(one) ^ desk.tapeByte(other);
        desk.next().alter(one, difference);
        desk.next().alter(other, difference);
    }

    private static void put(Desk desk, int at, int value) {
        desk.next().alter(at, desk.tapeByte(at) ^ value);
    }

    private static void anAnswerAtTheBoundIsRefused(String[] due) {
        Desk desk = edgeDesk(Integer.parseInt(due[0]));
        desk.tape(Base64.getDecoder().decode(due[1]));
        Check.same("set " + due[0] + ": an answer at the bound", desk.next().verify(0, 0), false);
    }

    private static void aHintAtZeroLowersTheStep() {
        Desk desk = edgeDesk(3);
        desk.tape(Base64.getDecoder().decode(Vectors.HINT_AT_ZERO));
        Check.same("a hint where the rest is 0", desk.next().verify(0, 0), true);
    }

    /** Nothing of one set's or key's work is left for the next. */
    private static void keysDoNotMix() {
        Desk desk = new Desk();
        int[] cases = {8, 0, 4, 6, 2, 3};
        for (int i : cases) {
            String[] due = Vectors.DSA[i];
            desk.tape(Check.stream("dsa keys " + due[0] + " " + due[1], 32));
            desk.next().keys(Integer.parseInt(due[0]));
        }
        for (int number = 0; number < cases.length; number++) {
            String[] due = Vectors.DSA[cases[number]];
            int n = Integer.parseInt(due[2]);
            if (n > 9) {
                continue;
            }
            desk.tape(Check.stream("dsa tape " + due[0] + " " + due[1], 32 + n + Integer.parseInt(due[3])));
            Check.same("keys " + number + ": sign", desk.next().sign(number, n), Integer.parseInt(due[6]));
            Check.same("keys " + number + ": signature", desk.resultDigest(), due[7]);
        }
        for (int number = 0; number < cases.length; number++) {
            desk.tape(Check.stream("chance", 32));
            desk.next().sign(number, 0);
            int other = (number + 1) % cases.length;
            desk.fill(5000);
            Check.same("keys " + other + ": any bytes", desk.next().verify(other, 0), false);
            desk.tape(Check.stream("chance", 32));
            desk.next().sign(number, 0);
            desk.next().again();
            Check.same("keys " + number + ": verify", desk.next().verify(number, 0), true);
        }
    }

    private static void aPublicPartVerifiesAlone(int set) {
        Desk desk = signed(set);
        desk.next().show(0, false);
        desk.next().again();
        Check.same("load", desk.next().load(set, false), 1);
        desk.quickKeys(set);
        desk.tape(Check.join(Check.stream("chance", 32), Check.stream("text", 12)));
        desk.next().sign(0, 3);
        lay(desk);
        Check.same("set " + set + ": a public part alone", desk.next().verify(1, 3), true);
        lay(desk);
        Check.same("set " + set + ": another's keys", desk.next().verify(2, 3), false);
        desk.tape(Check.stream("chance", 32));
        Check.refused("set " + set + ": it can't sign", NoSuchElementException.class, () -> desk.next().sign(1, 0));
        Check.same("the tape stays", desk.tapeHex(), Check.hex(Check.stream("chance", 32)));
    }

    private static void wrongSigningIsRefused(int set) {
        Desk desk = edgeDesk(set);
        desk.next().hash(0, 0);
        desk.tape(Check.stream("long", 400));
        for (int n : new int[] {-1, 256, 368, 369, Integer.MIN_VALUE, Integer.MAX_VALUE}) {
            Check.refused("sign(0, " + n + ")", IllegalArgumentException.class, () -> desk.next().sign(0, n));
        }
        for (int[] wrong : new int[][] {{0, 0}, {31, 0}, {32, 1}, {286, 255}}) {
            desk.tape(Check.stream("long", wrong[0]));
            Check.refused("sign of " + wrong[0] + " with " + wrong[1], IllegalArgumentException.class,
                    () -> desk.next().sign(0, wrong[1]));
            Check.same("lengths after it", desk.lengths(), wrong[0] + " 1 32");
        }
        Check.same("the tape stays", desk.tapeDigest(), Check.hex(Check.sha3(Check.stream("long", 286))));
        for (int[] right : new int[][] {{32, 0}, {33, 1}, {287, 255}}) {
            desk.tape(Check.stream("long", right[0]));
            Check.same("sign of " + right[0] + " with " + right[1], desk.next().sign(0, right[1]) > 0, true);
        }
    }

    private static void wrongVerifyingIsRefused(int set) {
        Desk desk = edgeDesk(set);
        desk.fill(SIGNATURE[set] + 300);
        for (int n : new int[] {-1, 256, 300, 301, Integer.MIN_VALUE, Integer.MAX_VALUE}) {
            Check.refused("verify(0, " + n + ")", IllegalArgumentException.class, () -> desk.next().verify(0, n));
        }
        for (int[] wrong : new int[][] {{0, 0}, {-1, 0}, {0, 1}, {254, 255}}) {
            int length = wrong[1] == 0 && wrong[0] == 0 ? 0 : SIGNATURE[set] + wrong[0];
            desk.fill(length);
            Check.refused("verify of " + length + " with " + wrong[1], IllegalArgumentException.class,
                    () -> desk.next().verify(0, wrong[1]));
            Check.same("lengths after it", desk.lengths(), length + " 1 8192");
        }
        for (int[] right : new int[][] {{0, 0}, {1, 1}, {255, 255}}) {
            desk.fill(SIGNATURE[set] + right[0]);
            Check.same("verify with " + right[1], desk.next().verify(0, right[1]), false);
        }
    }

    private static void otherKeysAreRefused() {
        Desk desk = new Desk();
        desk.quickKeys(0);
        desk.quickKeys(1);
        desk.quickKeys(2);
        desk.fill(6000);
        for (int number : new int[] {-1, 0, 1, 2, 3, 8, Integer.MIN_VALUE, Integer.MAX_VALUE}) {
            Check.refused("sign(" + number + ", 0)", NoSuchElementException.class, () -> desk.next().sign(number, 0));
            Check.refused("verify(" + number + ", 0)", NoSuchElementException.class,
                    () -> desk.next().verify(number, 0));
            Check.refused("sign(" + number + ", 256)", NoSuchElementException.class,
                    () -> desk.next().sign(number, 256));
            Check.refused("verify(" + number + ", -1)", NoSuchElementException.class,
                    () -> desk.next().verify(number, -1));
        }
        Check.same("lengths after it", desk.lengths(), "6000 3 8192");
    }

    /**
     * No seed is known that goes 200 times through the loop, and none will be found: so the object gets a signer that
     * gives up sooner, and a case that needs 8 passes.
     */
    private static void tooLongALoopIsGivenUp() throws ReflectiveOperationException {
        String[] due = Vectors.EDGES[10];
        int passes = Integer.parseInt(due[2]);
        Check.same("the case needs passes", passes, 8);
        Desk patient = impatient(passes);
        patient.tape(Check.stream("edge chance " + due[1], 32));
        Check.same("just enough passes", patient.next().sign(0, 0), passes);
        Desk desk = impatient(passes - 1);
        desk.next().hash(0, 0);
        desk.tape(Check.stream("edge chance " + due[1], 32));
        Check.refused("one pass too few", IllegalStateException.class, () -> desk.next().sign(0, 0));
        Check.same("the tape stays", desk.tapeHex(), Check.hex(Check.stream("edge chance " + due[1], 32)));
        Check.same("the result stays", desk.resultHex(), Check.hex(Check.sha3(new byte[0])));
        Field most = LatticeKeys.class.getDeclaredField("MOST_PASSES");
        most.setAccessible(true);
        Check.same("the most passes", most.getInt(null), 200);
    }

    private static Desk impatient(int passes) throws ReflectiveOperationException {
        LatticeKeys keys = new LatticeKeys();
        Field signer = LatticeKeys.class.getDeclaredField("dsa");
        signer.setAccessible(true);
        signer.set(keys, new LatticeKeys.Dsa(passes));
        Desk desk = new Desk(keys).tape(Check.stream("edge keys 4", 32));
        desk.next().keys(4);
        return desk;
    }
}
