import java.util.Arrays;
import java.util.NoSuchElementException;

/** Promises 13 and 14: sign and verify. Their boundaries are in DsaEdgeTest. */
public final class DsaTest {
    public static void main(String[] args) {
        for (String[] due : Vectors.DSA) {
            signaturesAreAsDue(due);
        }
        for (String[] due : Vectors.EDGES) {
            edgesOfTheLoopAreAsDue(due);
        }
        aRestThatIsTooLongIsPassedOver();
        keysDoNotMix();
        for (int set = 3; set < 6; set++) {
            whatIsAlteredIsRefused(set);
            aLongContextIsNoMessage(set);
            aPublicPartVerifiesAlone(set);
        }
        Check.finish();
    }

    private static void signaturesAreAsDue(String[] due) {
        int set = Integer.parseInt(due[0]);
        int n = Integer.parseInt(due[2]);
        int length = n + Integer.parseInt(due[3]);
        String name = due[0] + " " + due[1];
        String what = "set " + set + " case " + due[1] + ": ";
        byte[] tape = Check.stream("dsa tape " + name, 32 + length);
        Desk desk = new Desk().tape(Check.stream("dsa keys " + name, 32));
        desk.next().keys(set);
        desk.tape(tape);
        Check.same(what + "sign", desk.next().sign(0, n), Integer.parseInt(due[6]));
        Check.same(what + "lengths", desk.lengths(), "0 1 " + Sizes.SIGNATURE[set]);
        desk.next().again();
        desk.write(Arrays.copyOfRange(tape, 32, tape.length));
        Check.same(what + "verify", desk.next().verify(0, n), true);
        Check.same(what + "verify takes the tape alone", desk.lengths(), "0 1 " + Sizes.SIGNATURE[set]);
        Check.same(what + "signature", desk.resultDigest(), due[7]);
    }

    private static void edgesOfTheLoopAreAsDue(String[] due) {
        int set = Integer.parseInt(due[0]);
        String what = "edge of set " + set + " case " + due[1] + ": ";
        Desk desk = edgeDesk(set);
        desk.tape(Check.stream("edge chance " + due[1], 32));
        Check.same(what + "sign", desk.next().sign(0, 0), Integer.parseInt(due[2]));
        desk.next().again();
        Check.same(what + "verify", desk.next().verify(0, 0), true);
        Check.same(what + "signature", desk.resultDigest(), due[3]);
    }

    private static Desk edgeDesk(int set) {
        Desk desk = new Desk().tape(Check.stream("edge keys " + set, 32));
        desk.next().keys(set);
        return desk;
    }

    /** A desk whose result is a signature of a context of 3 bytes and a message of 9. */
    private static Desk signed(int set) {
        Desk desk = edgeDesk(set);
        desk.tape(Check.join(Check.stream("chance", 32), Check.stream("text", 12)));
        desk.next().sign(0, 3);
        return desk;
    }

    /** The tape is signature, context and message. */
    private static void lay(Desk desk) {
        desk.next().end(0);
        desk.next().again();
        desk.write(Check.stream("text", 12));
    }

    private static void whatIsAlteredIsRefused(int set) {
        Desk desk = signed(set);
        int start = Sizes.SIGNATURE[set];
        int end = start + 12;
        for (int at : new int[] {0, 31, 64, 700, start / 2, start, start + 2, start + 3, end - 1}) {
            lay(desk);
            desk.next().alter(at, 4);
            Check.same("set " + set + " altered at " + at, desk.next().verify(0, 3), false);
            Check.same("lengths after it", desk.lengths(), "0 1 " + Sizes.SIGNATURE[set]);
        }
        lay(desk);
        desk.next().end(end - 1);
        Check.same("set " + set + ": a shorter message", desk.next().verify(0, 3), false);
        lay(desk);
        desk.write(new byte[1]);
        Check.same("set " + set + ": a longer message", desk.next().verify(0, 3), false);
        lay(desk);
        Check.same("set " + set + ": the right one", desk.next().verify(0, 3), true);
        desk.fill(Sizes.SIGNATURE[set]);
        Check.same("set " + set + ": any bytes", desk.next().verify(0, 0), false);
        desk.tape(new byte[Sizes.SIGNATURE[set]]);
        Check.same("set " + set + ": zeros", desk.next().verify(0, 0), false);
    }

    private static void aLongContextIsNoMessage(int set) {
        byte[] text = Check.stream("long text", 255);
        Desk desk = edgeDesk(set).tape(Check.join(Check.stream("chance", 32), text));
        desk.next().sign(0, 255);
        desk.next().again();
        Check.same("set " + set + ": a context of 255", desk.write(text).next().verify(0, 255), true);
        desk.next().again();
        Check.same("set " + set + ": the same as a message", desk.write(text).next().verify(0, 0), false);
    }

    /** With this chance the first pass is good but for the challenge's share of the low part (ct0), which is 95,276. */
    private static void aRestThatIsTooLongIsPassedOver() {
        Desk desk = new Desk().tape(Check.stream("long rest keys 211716", 32));
        desk.next().keys(3);
        desk.tape(Check.stream("long rest chance 3790920", 32));
        Check.same("a rest that is too long: sign", desk.next().sign(0, 0), 19);
        Check.same("a rest that is too long: signature", desk.resultDigest(),
                "acf4ef39efb778693bc030d26d38ed1cadcf9d16a53a5555cfeb33e853248c65");
    }

    /** Nothing of one set's or key's work is left for the next. */
    private static void keysDoNotMix() {
        Desk desk = new Desk();
        int[] cases = {8, 0, 4, 6, 2, 3};
        for (int i : cases) {
            String[] due = Vectors.DSA[i];
            desk.tape(Check.stream("dsa keys " + due[0] + " " + due[1], 32));
            desk.next().keys(Integer.parseInt(due[0]));
        }
        for (int number = 0; number < cases.length; number++) {
            String[] due = Vectors.DSA[cases[number]];
            int n = Integer.parseInt(due[2]);
            if (n > 9) {
                continue;
            }
            desk.tape(Check.stream("dsa tape " + due[0] + " " + due[1], 32 + n + Integer.parseInt(due[3])));
            Check.same("keys " + number + ": sign", desk.next().sign(number, n), Integer.parseInt(due[6]));
            Check.same("keys " + number + ": signature", desk.resultDigest(), due[7]);
        }
        for (int number = 0; number < cases.length; number++) {
            desk.tape(Check.stream("chance", 32));
            desk.next().sign(number, 0);
            int other = (number + 1) % cases.length;
            desk.fill(5000);
            Check.same("keys " + other + ": any bytes", desk.next().verify(other, 0), false);
            desk.tape(Check.stream("chance", 32));
            desk.next().sign(number, 0);
            desk.next().again();
            Check.same("keys " + number + ": verify", desk.next().verify(number, 0), true);
        }
    }

    private static void aPublicPartVerifiesAlone(int set) {
        Desk desk = signed(set);
        desk.next().show(0, false);
        desk.next().again();
        Check.same("load", desk.next().load(set, false), 1);
        desk.quickKeys(set);
        desk.tape(Check.join(Check.stream("chance", 32), Check.stream("text", 12)));
        desk.next().sign(0, 3);
        lay(desk);
        Check.same("set " + set + ": a public part alone", desk.next().verify(1, 3), true);
        lay(desk);
        Check.same("set " + set + ": another's keys", desk.next().verify(2, 3), false);
        desk.tape(Check.stream("chance", 32));
        Check.refused("set " + set + ": it can't sign", NoSuchElementException.class, () -> desk.next().sign(1, 0));
        Check.same("the tape stays", desk.tapeHex(), Check.hex(Check.stream("chance", 32)));
    }
}
