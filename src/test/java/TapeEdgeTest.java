import java.util.NoSuchElementException;

/** The boundary cases of promises 1 to 5, 16 and 17: a test for each sentence that names one. */
public final class TapeEdgeTest {
    private static final int LEAST = Integer.MIN_VALUE;
    private static final int MOST = Integer.MAX_VALUE;

    public static void main(String[] args) {
        aNewObjectHasNothing();
        aNewObjectRefusesWhatNeedsSomething();
        feedTakesAnyNumbers();
        feedNeedsRoomForTwenty();
        endTakesZeroToTheLength();
        endLeavesTheFirstBytesAlone();
        againNeedsRoomForTheResult();
        againOfNothingAddsNothing();
        alterNeedsAByte();
        alterTakesTheLowBitsAlone();
        resultNeedsAByte();
        resultEndsWithTheLastOne();
        countKnowsThreeNumbers();
        Check.finish();
    }

    /** 1: "No KEYS; an empty TAPE and RESULT." */
    private static void aNewObjectHasNothing() {
        Check.same("a new object's lengths", new Desk().lengths(), "0 0 0");
        Check.same("the tape of a new object", new Desk().tapeDigest(), Check.hex(Check.sha3(new byte[0])));
        Check.same("the result of a new object", new Desk().resultDigest(), Check.hex(Check.sha3(new byte[0])));
        Desk desk = new Desk();
        Check.same("end(0) of a new object", desk.next().end(0), 0);
        Check.same("again of a new object", desk.next().again(), 0);
        Check.same("feed to a new object", desk.next().feed(0, 0, 0, 0, 0), 20);
    }

    /** 1, with what the other promises say where there is nothing. */
    private static void aNewObjectRefusesWhatNeedsSomething() {
        Refusal empty = new Refusal("a new object", desk -> { })
                .of("end(1)", IllegalArgumentException.class, keys -> keys.end(1))
                .of("alter(0, 1)", IndexOutOfBoundsException.class, keys -> keys.alter(0, 1))
                .of("result(0)", IndexOutOfBoundsException.class, keys -> keys.result(0));
        for (int set = 0; set < 6; set++) {
            int number = set;
            empty.of("keys(" + set + ")", IllegalArgumentException.class, keys -> keys.keys(number))
                    .of("load(" + set + ", false)", IllegalArgumentException.class, keys -> keys.load(number, false))
                    .of("load(" + set + ", true)", IllegalArgumentException.class, keys -> keys.load(number, true));
        }
        empty.of("part(0, false, 0)", NoSuchElementException.class, keys -> keys.part(0, false, 0))
                .of("part(0, true, 0)", NoSuchElementException.class, keys -> keys.part(0, true, 0))
                .of("show(0, false)", NoSuchElementException.class, keys -> keys.show(0, false))
                .of("show(0, true)", NoSuchElementException.class, keys -> keys.show(0, true))
                .of("told(0, 0)", NoSuchElementException.class, keys -> keys.told(0, 0))
                .of("seal(0)", NoSuchElementException.class, keys -> keys.seal(0))
                .of("open(0)", NoSuchElementException.class, keys -> keys.open(0))
                .of("sign(0, 0)", NoSuchElementException.class, keys -> keys.sign(0, 0))
                .of("verify(0, 0)", NoSuchElementException.class, keys -> keys.verify(0, 0));
    }

    /** 2: "The four bytes of each number, the highest first, come to the TAPE: its length." */
    private static void feedTakesAnyNumbers() {
        int[] numbers = {0, -1, LEAST, MOST, 0x80, 0xff00, 0x00800000, 0x7f010203};
        String[] due = {"00000000", "ffffffff", "80000000", "7fffffff", "00000080", "0000ff00", "00800000", "7f010203"};
        for (int i = 0; i < numbers.length; i++) {
            Desk desk = new Desk();
            int n = numbers[i];
            Check.same("feed of " + n, desk.next().feed(n, 1, n, 2, n), 20);
            Check.same("its bytes", desk.tapeHex(), due[i] + "00000001" + due[i] + "00000002" + due[i]);
        }
    }

    /** 2: "IllegalStateException: there is no room for 20." */
    private static void feedNeedsRoomForTwenty() {
        for (int length : new int[] {Sizes.TAPE - 19, Sizes.TAPE - 1, Sizes.TAPE}) {
            new Refusal("a tape of " + length, desk -> desk.fill(length))
                    .of("feed", IllegalStateException.class, keys -> keys.feed(1, 2, 3, 4, 5));
        }
        Desk desk = new Desk().fill(Sizes.TAPE - 20);
        Check.same("feed with room for just 20", desk.next().feed(0xa1, 0xb2, 0xc3, 0xd4, 0xabcdef), Sizes.TAPE);
        Check.same("the last byte but 16", desk.tapeByte(Sizes.TAPE - 17), 0xa1);
        Check.same("the very last byte", desk.tapeByte(Sizes.TAPE - 1), 0xef);
        Check.same("a tape of 16,363", new Desk().fill(Sizes.TAPE - 21).next().feed(0, 0, 0, 0, 0), Sizes.TAPE - 1);
    }

    /** 3: "IllegalArgumentException: n is not 0 .. its length." */
    private static void endTakesZeroToTheLength() {
        for (int length : new int[] {0, 1, 50, Sizes.TAPE - 1, Sizes.TAPE}) {
            new Refusal("a tape of " + length, desk -> desk.fill(length))
                    .of("end(-1)", IllegalArgumentException.class, keys -> keys.end(-1))
                    .of("end of one more", IllegalArgumentException.class, keys -> keys.end(length + 1))
                    .of("end of the least", IllegalArgumentException.class, keys -> keys.end(LEAST))
                    .of("end of the most", IllegalArgumentException.class, keys -> keys.end(MOST))
                    .butNot("end(0)", 0, keys -> keys.end(0))
                    .butNot("end of all", length, keys -> keys.end(length));
        }
    }

    /** 3: "Only the first n bytes of the TAPE stay: n." */
    private static void endLeavesTheFirstBytesAlone() {
        byte[] bytes = Check.stream("tape", 50);
        for (int n : new int[] {0, 1, 49, 50}) {
            Desk desk = new Desk().tape(bytes);
            Check.same("end(" + n + ") of 50", desk.next().end(n), n);
            Check.same("what stays of it", desk.tapeHex(), Check.hex(bytes).substring(0, 2 * n));
            Check.same("feed behind it", desk.next().feed(0, 0, 0, 0, 0), n + 20);
            Check.same("what was behind is gone", desk.tapeHex(),
                    Check.hex(bytes).substring(0, 2 * n) + "0".repeat(40));
        }
        new Refusal("when end left 7", desk -> desk.tape(bytes).next().end(7))
                .of("end(8)", IllegalArgumentException.class, keys -> keys.end(8))
                .of("alter(7, 0)", IndexOutOfBoundsException.class, keys -> keys.alter(7, 0));
    }

    /** 4: "IllegalStateException: there is no room for it." */
    private static void againNeedsRoomForTheResult() {
        new Refusal("a tape of 8,193 and a result of 8,192", desk -> desk.fill(Sizes.TAPE - Sizes.RESULT + 1))
                .of("again", IllegalStateException.class, keys -> keys.again());
        new Refusal("a tape of 8,192 and a result of 8,192", desk -> desk.fill(Sizes.TAPE - Sizes.RESULT))
                .butNot("again", Sizes.TAPE, keys -> keys.again());
        new Refusal("a full tape and a result of 8,192", desk -> desk.fill(Sizes.TAPE))
                .of("again", IllegalStateException.class, keys -> keys.again());
        new Refusal("a tape of 15,585 and a result of 800", desk -> besideAPart(desk, Sizes.TAPE - 799))
                .of("again", IllegalStateException.class, keys -> keys.again());
        new Refusal("a tape of 15,584 and a result of 800", desk -> besideAPart(desk, Sizes.TAPE - 800))
                .butNot("again", Sizes.TAPE, keys -> keys.again());
        Desk desk = new Desk();
        besideAPart(desk, Sizes.TAPE - 800);
        desk.next().again();
        Check.same("the result's first byte on the tape", desk.tapeByte(Sizes.TAPE - 800), desk.next().result(0));
        Check.same("the result's last byte on the tape", desk.tapeByte(Sizes.TAPE - 1), desk.next().result(799));
    }

    /** The tape is so long, and the result is the public part of keys 0, 800 bytes. */
    private static void besideAPart(Desk desk, int length) {
        desk.quickKeys(0);
        desk.fill(length);
        desk.next().show(0, false);
    }

    /** 4: "The RESULT comes behind what the TAPE has: its length." */
    private static void againOfNothingAddsNothing() {
        Desk desk = new Desk().result(0).tape(Check.stream("before", 5));
        Check.same("again of an empty result", desk.next().again(), 5);
        Check.same("the tape then", desk.tapeHex(), Check.hex(Check.stream("before", 5)));
        desk.result(1);
        Check.same("again of one byte, on an empty tape", desk.next().again(), 1);
        Check.same("again of one byte more", desk.next().again(), 2);
        Check.same("the tape then", desk.tapeHex(), "7f7f");
    }

    /** 5: "IndexOutOfBoundsException: there is none." */
    private static void alterNeedsAByte() {
        for (int length : new int[] {0, 1, 50, Sizes.TAPE}) {
            Refusal refusal = new Refusal("a tape of " + length, desk -> desk.fill(length))
                    .of("alter(-1, 1)", IndexOutOfBoundsException.class, keys -> keys.alter(-1, 1))
                    .of("alter behind the last", IndexOutOfBoundsException.class, keys -> keys.alter(length, 1))
                    .of("alter of the least", IndexOutOfBoundsException.class, keys -> keys.alter(LEAST, 1))
                    .of("alter of the most", IndexOutOfBoundsException.class, keys -> keys.alter(MOST, 1));
            if (length > 0) {
                // Byte 0 of SHAKE256 of nothing is 0x46.
                refusal.butNot("alter(0, 1)", 0x47, keys -> keys.alter(0, 1));
                refusal.butNot("alter of the last", true, keys -> keys.alter(length - 1, 0) >= 0);
            }
        }
    }

    /** 5: "Byte i of the TAPE is exclusive-or'ed with the low 8 bits of with: what it is then." */
    private static void alterTakesTheLowBitsAlone() {
        int[][] cases = {{0, 0, 0}, {0, 0x80, 0x80}, {0, 255, 255}, {0, 256, 0}, {0, 0x1ff, 255}, {0, -1, 255},
            {0, -256, 0}, {0, LEAST, 0}, {0, MOST, 255}, {255, 1, 254}, {255, 255, 0}, {0x80, 0, 0x80},
            {0x55, -1, 0xaa}};
        for (int[] c : cases) {
            Desk desk = new Desk().tape(new byte[] {7, (byte) c[0], 9});
            Check.same(c[0] + " altered with " + c[1], desk.next().alter(1, c[1]), c[2]);
            Check.same("it stays so", desk.tapeByte(1), c[2]);
            Check.same("its neighbours", desk.tapeByte(0) * 10 + desk.tapeByte(2), 79);
        }
    }

    /** 16: "Byte i of the RESULT. IndexOutOfBoundsException: there is none." */
    private static void resultNeedsAByte() {
        for (int length : new int[] {0, 1, 32, Sizes.RESULT - 1, Sizes.RESULT}) {
            Refusal refusal = new Refusal("a result of " + length, desk -> desk.result(length).tape(new byte[3]))
                    .of("result(-1)", IndexOutOfBoundsException.class, keys -> keys.result(-1))
                    .of("result behind the last", IndexOutOfBoundsException.class, keys -> keys.result(length))
                    .of("result of the least", IndexOutOfBoundsException.class, keys -> keys.result(LEAST))
                    .of("result of the most", IndexOutOfBoundsException.class, keys -> keys.result(MOST));
            if (length > 0) {
                refusal.butNot("result(0)", 0x7f, keys -> keys.result(0));
                refusal.butNot("result of the last", true, keys -> keys.result(length - 1) >= 0);
            }
        }
    }

    /** 16, of a result that is shorter than the one before, and of bytes above 127. */
    private static void resultEndsWithTheLastOne() {
        new Refusal("a result of 64, then one of 32", desk -> {
            desk.next().hash(1, 0);
            desk.next().hash(0, 0);
        })
                .of("result(32)", IndexOutOfBoundsException.class, keys -> keys.result(32))
                .of("result(63)", IndexOutOfBoundsException.class, keys -> keys.result(63))
                .butNot("result(31)", 0x4a, keys -> keys.result(31))
                .butNot("result(1), a byte of 255", 255, keys -> keys.result(1));
    }

    /** 17: "0 the TAPE's length; 1 KEYS; 2 the RESULT's length. Else -1." */
    private static void countKnowsThreeNumbers() {
        Desk desk = new Desk();
        desk.quickKeys(0);
        desk.result(77).tape(new byte[11]);
        Check.same("the three", desk.lengths(), "11 1 77");
        for (int what : new int[] {-1, 3, 4, 255, 256, 257, LEAST, MOST}) {
            Check.same("count(" + what + ")", desk.next().count(what), -1);
        }
        Check.same("a full tape and a full result", new Desk().fill(Sizes.TAPE).lengths(), "16384 0 8192");
    }
}
