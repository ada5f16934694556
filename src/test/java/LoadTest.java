import java.util.NoSuchElementException;

/** Promise 7: load. */
public final class LoadTest {
    private static final int[] RANKS = {2, 3, 4};

    public static void main(String[] args) {
        for (int set = 0; set < 6; set++) {
            publicPartsAreLoaded(set);
            otherLengthsAreRefused(set, false);
        }
        for (int set = 0; set < 3; set++) {
            secretPartsAreLoaded(set);
            otherLengthsAreRefused(set, true);
            numbersFromTheModulusOnAreRefused(set);
            anotherHashIsRefused(set);
            whatIsNotCheckedIsTaken(set);
        }
        for (int set = 3; set < 6; set++) {
            secretPartsOfSignersAreRefused(set);
            anyPublicPartOfSignersIsTaken(set);
        }
        otherSetsAreRefused();
        refusalsComeInTheirOrder();
        Check.finish();
    }

    /** A desk whose tape is a part of fresh keys, number 0. */
    private static Desk withPart(int set, boolean secret) {
        Desk desk = new Desk();
        desk.quickKeys(set);
        desk.next().show(0, secret);
        desk.next().again();
        return desk;
    }

    private static void publicPartsAreLoaded(int set) {
        Desk desk = withPart(set, false);
        String what = "set " + set + ": ";
        Check.same(what + "load", desk.next().load(set, false), 1);
        Check.same(what + "lengths", desk.lengths(), "0 2 " + KeysTest.PUBLIC[set]);
        Check.same(what + "set told", desk.next().told(1, 0), set);
        Check.same(what + "public length told", desk.next().told(1, 1), KeysTest.PUBLIC[set]);
        Check.same(what + "secret length told", desk.next().told(1, 2), 0);
        Check.refused(what + "no secret part to show", NoSuchElementException.class, () -> desk.next().show(1, true));
        Check.refused(what + "no secret byte", NoSuchElementException.class, () -> desk.next().part(1, true, 0));
        Check.same(what + "public part", desk.partDigest(1, false), desk.partDigest(0, false));
    }

    private static void secretPartsAreLoaded(int set) {
        Desk desk = withPart(set, true);
        String what = "secret of set " + set + ": ";
        Check.same(what + "load", desk.next().load(set, true), 1);
        Check.same(what + "lengths", desk.lengths(), "0 2 " + KeysTest.SECRET[set]);
        Check.same(what + "set told", desk.next().told(1, 0), set);
        Check.same(what + "public length told", desk.next().told(1, 1), KeysTest.PUBLIC[set]);
        Check.same(what + "secret length told", desk.next().told(1, 2), KeysTest.SECRET[set]);
        Check.same(what + "public part", desk.partDigest(1, false), desk.partDigest(0, false));
        Check.same(what + "secret part", desk.partDigest(1, true), desk.partDigest(0, true));
    }

    private static void otherLengthsAreRefused(int set, boolean secret) {
        Desk desk = withPart(set, secret);
        int length = desk.next().count(0);
        String what = "load(" + set + ", " + secret + ") of ";
        desk.next().feed(0, 0, 0, 0, 0);
        desk.next().end(length + 1);
        Check.refused(what + "one more", IllegalArgumentException.class, () -> desk.next().load(set, secret));
        desk.next().end(length);
        Check.refused(what + "the other part", IllegalArgumentException.class, () -> desk.next().load(set, !secret));
        desk.next().end(length - 1);
        Check.refused(what + "one less", IllegalArgumentException.class, () -> desk.next().load(set, secret));
        desk.next().end(0);
        Check.refused(what + "nothing", IllegalArgumentException.class, () -> desk.next().load(set, secret));
        Check.same("lengths after it", desk.lengths(), "0 1 " + length);
    }

    private static void numbersFromTheModulusOnAreRefused(int set) {
        int last = 384 * RANKS[set] - 3;
        for (int at : new int[] {0, 3, 381, 384, last}) {
            for (boolean odd : new boolean[] {false, true}) {
                String what = "set " + set + " numbers at " + at + (odd ? ", the odd one " : ", the even one ");
                Desk desk = withPart(set, false);
                putNumber(desk, at, odd, 3329);
                Check.refused(what + "3329", UnsupportedOperationException.class, () -> desk.next().load(set, false));
                putNumber(desk, at, odd, 4095);
                Check.refused(what + "4095", UnsupportedOperationException.class, () -> desk.next().load(set, false));
                Check.same(what + "lengths", desk.lengths(), KeysTest.PUBLIC[set] + " 1 " + KeysTest.PUBLIC[set]);
                putNumber(desk, at, odd, 3328);
                Check.same(what + "3328", desk.next().load(set, false), 1);
            }
        }
        Desk desk = withPart(set, false);
        for (int i = 0; i < 32; i++) {
            desk.next().alter(384 * RANKS[set] + i, 255 ^ desk.tapeByte(384 * RANKS[set] + i));
        }
        Check.same("set " + set + ": any seed behind the numbers", desk.next().load(set, false), 1);
    }

    /** Three bytes of the tape hold two numbers of 12 bits. */
    private static void putNumber(Desk desk, int at, boolean odd, int number) {
        int middle = desk.tapeByte(at + 1);
        if (odd) {
            desk.next().alter(at + 1, middle ^ (middle & 15 | number << 4 & 0xf0));
            desk.next().alter(at + 2, desk.tapeByte(at + 2) ^ number >> 4);
        } else {
            desk.next().alter(at, desk.tapeByte(at) ^ number & 255);
            desk.next().alter(at + 1, middle ^ (middle & 0xf0 | number >> 8));
        }
    }

    private static void anotherHashIsRefused(int set) {
        int start = 384 * RANKS[set];
        int hash = start + KeysTest.PUBLIC[set];
        Desk desk = withPart(set, true);
        for (int at : new int[] {start, start + 500, hash - 33, hash - 1, hash, hash + 13, hash + 31}) {
            desk.next().alter(at, 0x10);
            Check.refused("secret of set " + set + " altered at " + at, UnsupportedOperationException.class,
                    () -> desk.next().load(set, true));
            desk.next().alter(at, 0x10);
        }
        Check.same("lengths after it", desk.lengths(), KeysTest.SECRET[set] + " 1 " + KeysTest.SECRET[set]);
        Check.same("put right again, it is taken", desk.next().load(set, true), 1);
    }

    private static void whatIsNotCheckedIsTaken(int set) {
        int start = 384 * RANKS[set];
        int refusal = start + KeysTest.PUBLIC[set] + 32;
        Desk desk = withPart(set, true);
        for (int at : new int[] {0, 1, 2, start - 1, refusal, refusal + 31}) {
            desk.next().alter(at, 255 ^ desk.tapeByte(at));
        }
        Check.same("set " + set + ": vector and refusal are free", desk.next().load(set, true), 1);
        Check.same("the altered byte is kept", desk.next().part(1, true, 0), 255);
        desk.tape(Check.stream("wild secret " + set, start));
        byte[] wild = Check.stream("wild public " + set, KeysTest.PUBLIC[set]);
        desk.write(wild).write(Check.sha3(wild)).write(Check.stream("wild refusal " + set, 32));
        Check.same("set " + set + ": the public part in it is not checked", desk.next().load(set, true), 2);
        Check.same("its public part", desk.partDigest(2, false), Check.hex(Check.sha3(wild)));
    }

    private static void secretPartsOfSignersAreRefused(int set) {
        Desk desk = withPart(set, true);
        Check.refused("secret of set " + set, IllegalArgumentException.class, () -> desk.next().load(set, true));
        Check.same("lengths after it", desk.lengths(), KeysTest.SECRET[set] + " 1 " + KeysTest.SECRET[set]);
    }

    private static void anyPublicPartOfSignersIsTaken(int set) {
        Desk desk = new Desk().fill(KeysTest.PUBLIC[set]);
        Check.same("any public part of set " + set, desk.next().load(set, false), 0);
        desk.tape(new byte[0]).fill(KeysTest.PUBLIC[set]);
        Check.same("its bytes", desk.tapeDigest(), desk.partDigest(0, false));
    }

    private static void otherSetsAreRefused() {
        Desk desk = withPart(0, false);
        for (int set : new int[] {-1, 6, 7, Integer.MIN_VALUE, Integer.MAX_VALUE}) {
            Check.refused("load(" + set + ", false)", IllegalArgumentException.class,
                    () -> desk.next().load(set, false));
            Check.refused("load(" + set + ", true)", IllegalArgumentException.class, () -> desk.next().load(set, true));
        }
        Check.same("lengths after it", desk.lengths(), "800 1 800");
        Check.same("the part is whole", desk.next().load(0, false), 1);
        Check.same("the same part", desk.partDigest(1, false), desk.partDigest(0, false));
    }

    private static void refusalsComeInTheirOrder() {
        Desk desk = new Desk();
        for (int i = 0; i < 8; i++) {
            desk.quickKeys(0);
        }
        desk.next().show(0, false);
        desk.next().again();
        Check.refused("the ninth", IllegalStateException.class, () -> desk.next().load(0, false));
        putNumber(desk, 0, false, 3329);
        Check.refused("a wrong ninth", UnsupportedOperationException.class, () -> desk.next().load(0, false));
        desk.next().end(799);
        Check.refused("a short ninth", IllegalArgumentException.class, () -> desk.next().load(0, false));
        desk.next().end(0);
        desk.next().show(0, true);
        desk.next().again();
        Check.refused("a secret ninth", IllegalStateException.class, () -> desk.next().load(0, true));
        desk.next().alter(1600 - 32, 1);
        Check.refused("a wrong secret ninth", UnsupportedOperationException.class, () -> desk.next().load(0, true));
        desk.fill(KeysTest.PUBLIC[3]);
        Check.refused("a signer's ninth", IllegalStateException.class, () -> desk.next().load(3, false));
        Check.same("lengths after it", desk.lengths(), KeysTest.PUBLIC[3] + " 8 8192");
    }
}
