import java.util.Arrays;
import java.util.NoSuchElementException;
import java.util.Random;

/** The boundary cases of "What it is" and "Terms": a test for each sentence that names one. */
public final class TermsEdgeTest {
    public static void main(String[] args) {
        theLastCallIsStillRight();
        theTapeHoldsAllItsBytes();
        whatTakesTheTapeLeavesItEmpty();
        whatDoesNotTakeTheTapeLeavesIt();
        whatThrowsLeavesTapeAndResult();
        theResultHoldsAllItsBytes();
        whatMakesNoResultLeavesIt();
        whatIsThrownComesInOrder();
        setsAreSix();
        keysAreEightNumberedFromZero();
        aSecretPartMayBeMissing();
        aSeedOfMlKemHasTwoHalves();
        aSeedOfMlDsaIsTheTape();
        chanceEndsWhereTheContextBegins();
        contextAndMessageAreApart();
        for (int seed = 0; seed < 60; seed++) {
            refusedCallsLeaveNoTrace(seed);
        }
        Check.finish();
    }

    /** "An object is used for at most 512 calls after it has been made". */
    private static void theLastCallIsStillRight() {
        Desk desk = new Desk();
        desk.quickKeys(5);
        desk.quickKeys(2);
        while (desk.calls() < 496) {
            desk.fill(32).next().sign(0, 0);
            desk.next().again();
            Check.same("verify", desk.next().verify(0, 0), true);
        }
        while (desk.calls() < 506) {
            desk.next().feed(1, 2, 3, 4, 5);
        }
        desk.next().end(32);
        desk.next().sign(0, 0);
        desk.next().again();
        desk.next().verify(0, 0);
        desk.next().again();
        Check.same("the calls so far", desk.calls(), 511);
        Check.same("the 512th call", desk.next().verify(0, 0), true);
    }

    /** "THE TAPE: bytes gathered by feed, at most 16,384". */
    private static void theTapeHoldsAllItsBytes() {
        Desk desk = new Desk().fill(Sizes.TAPE - 40);
        desk.next().feed(1, 2, 3, 4, 5);
        Check.same("feed to the last byte", desk.next().feed(6, 7, 8, 9, 10), Sizes.TAPE);
        for (int i = 0; i < 40; i++) {
            Check.same("byte " + i + " of the last 40", desk.tapeByte(Sizes.TAPE - 40 + i), i % 4 == 3 ? i / 4 + 1 : 0);
        }
        Check.same("the bytes before them", desk.tapeByte(0) << 8 | desk.tapeByte(8192), 0x4646);
        Check.refused("one more", IllegalStateException.class, () -> desk.next().feed(0, 0, 0, 0, 0));
        Check.refused("byte 16,384", IndexOutOfBoundsException.class, () -> desk.next().alter(Sizes.TAPE, 0));
        Check.same("twice 8,192 bytes", new Desk().fill(Sizes.TAPE).tapeDigest(), twice8192());
    }

    /** The same hashed by the JDK, out of bytes of the result. */
    private static String twice8192() {
        byte[] bytes = new byte[0];
        while (bytes.length < Sizes.RESULT) {
            Desk desk = new Desk();
            desk.next().hash(3, Sizes.RESULT);
            bytes = Check.join(bytes, desk.resultBytes(bytes.length, 256));
        }
        return Check.hex(Check.sha3(Check.join(bytes, bytes)));
    }

    /** Keys 0 of ML-KEM-512 and 1 of ML-DSA-44, a result of 77 bytes, and a tape. */
    private static Desk laid(int length) {
        Desk desk = new Desk();
        lay(desk, length);
        return desk;
    }

    private static void lay(Desk desk, int length) {
        desk.quickKeys(0);
        desk.quickKeys(3);
        desk.result(77).tape(Check.stream("tape", length));
    }

    /** As laid, but the tape is a part of keys, and so is the result. */
    private static Desk laidPart(int number, boolean secret) {
        Desk desk = laid(0);
        desk.next().show(number, secret);
        desk.next().again();
        return desk;
    }

    private static Desk laidSignature() {
        Desk desk = laid(32);
        desk.next().sign(1, 0);
        desk.next().again();
        return desk;
    }

    /** "a call that takes it leaves it empty". */
    private static void whatTakesTheTapeLeavesItEmpty() {
        taken("keys(0)", laid(64), keys -> keys.keys(0), 2);
        taken("keys(5)", laid(32), keys -> keys.keys(5), 2);
        taken("load(0, false)", laidPart(0, false), keys -> keys.load(0, false), 2);
        taken("load(0, true)", laidPart(0, true), keys -> keys.load(0, true), 2);
        taken("load(3, false)", laidPart(1, false), keys -> keys.load(3, false), 2);
        taken("seal(0)", laid(32), keys -> keys.seal(0), 800);
        taken("open(0)", laid(768), keys -> keys.open(0), 32);
        taken("sign(1, 3)", laid(80), keys -> keys.sign(1, 3) > 0, true);
        taken("verify(1, 0), good", laidSignature(), keys -> keys.verify(1, 0), true);
        Desk altered = laidSignature();
        altered.next().alter(0, 1);
        taken("verify(1, 0), not good", altered, keys -> keys.verify(1, 0), false);
        taken("verify(1, 0), not of its form", laid(2420), keys -> keys.verify(1, 0), false);
        for (int kind = 0; kind < 4; kind++) {
            int what = kind;
            int due = kind == 1 ? 64 : 32;
            taken("hash(" + kind + ", 32)", laid(50), keys -> keys.hash(what, 32), due);
        }
    }

    private static void taken(String call, Desk desk, Refusal.Act act, Object due) {
        Check.same(call, act.on(desk.next()), due);
        Check.same(call + ": the tape's length", desk.next().count(0), 0);
        Check.refused(call + ": its first byte", IndexOutOfBoundsException.class, () -> desk.next().alter(0, 0));
        Check.refused(call + ": end(1)", IllegalArgumentException.class, () -> desk.next().end(1));
        Check.same(call + ": feed then", desk.next().feed(0x01020304, 0, 0, 0, 0), 20);
        Check.same(call + ": the first byte then", desk.tapeByte(0), 1);
    }

    private static void whatDoesNotTakeTheTapeLeavesIt() {
        String tape = "50 " + Check.hex(Check.sha3(Check.stream("tape", 50)));
        Refusal.Act[] acts = {keys -> keys.alter(49, 0), keys -> keys.end(50), keys -> keys.part(0, true, 0),
            keys -> keys.show(0, true), keys -> keys.told(0, 0), keys -> keys.result(0), keys -> keys.count(0)};
        for (int i = 0; i < acts.length; i++) {
            Desk desk = laid(50);
            acts[i].on(desk.next());
            Check.same("call " + i + " leaves the tape", desk.tapeAccount(), tape);
        }
    }

    /** "unless it throws. A call that throws leaves the RESULT, too". */
    private static void whatThrowsLeavesTapeAndResult() {
        new Refusal("a tape of 50, a result of 77", desk -> lay(desk, 50))
                .of("end(51)", IllegalArgumentException.class, keys -> keys.end(51))
                .of("alter(50, 1)", IndexOutOfBoundsException.class, keys -> keys.alter(50, 1))
                .of("keys(0)", IllegalArgumentException.class, keys -> keys.keys(0))
                .of("load(0, true)", IllegalArgumentException.class, keys -> keys.load(0, true))
                .of("part(0, true, 1632)", IndexOutOfBoundsException.class, keys -> keys.part(0, true, 1632))
                .of("part(2, true, 0)", NoSuchElementException.class, keys -> keys.part(2, true, 0))
                .of("show(2, true)", NoSuchElementException.class, keys -> keys.show(2, true))
                .of("told(0, 3)", IllegalArgumentException.class, keys -> keys.told(0, 3))
                .of("told(2, 0)", NoSuchElementException.class, keys -> keys.told(2, 0))
                .of("seal(0)", IllegalArgumentException.class, keys -> keys.seal(0))
                .of("seal(1)", NoSuchElementException.class, keys -> keys.seal(1))
                .of("open(0)", IllegalArgumentException.class, keys -> keys.open(0))
                .of("open(1)", NoSuchElementException.class, keys -> keys.open(1))
                .of("sign(1, 19)", IllegalArgumentException.class, keys -> keys.sign(1, 19))
                .of("sign(0, 0)", NoSuchElementException.class, keys -> keys.sign(0, 0))
                .of("verify(1, 0)", IllegalArgumentException.class, keys -> keys.verify(1, 0))
                .of("verify(0, 0)", NoSuchElementException.class, keys -> keys.verify(0, 0))
                .of("hash(0, 8193)", IllegalArgumentException.class, keys -> keys.hash(0, 8193))
                .of("hash(4, 0)", IllegalArgumentException.class, keys -> keys.hash(4, 0))
                .of("result(77)", IndexOutOfBoundsException.class, keys -> keys.result(77));
        new Refusal("a public part that is wrong", desk -> {
            lay(desk, 800);
            desk.next().alter(0, desk.tapeByte(0) ^ 255);
            desk.next().alter(1, desk.tapeByte(1) ^ 255);
        }).of("load(0, false)", UnsupportedOperationException.class, keys -> keys.load(0, false));
        new Refusal("a secret part that is wrong", desk -> lay(desk, 1632))
                .of("load(0, true)", UnsupportedOperationException.class, keys -> keys.load(0, true));
        new Refusal("8 keys and a tape of 64", desk -> KeysEdgeTest.eight(desk).tape(Check.stream("tape", 64)))
                .of("keys(2)", IllegalStateException.class, keys -> keys.keys(2));
        new Refusal("8 keys and a public part", desk -> KeysEdgeTest.eight(desk).fill(1312))
                .of("load(3, false)", IllegalStateException.class, keys -> keys.load(3, false));
        new Refusal("a full tape", desk -> desk.fill(Sizes.TAPE))
                .of("feed", IllegalStateException.class, keys -> keys.feed(1, 2, 3, 4, 5))
                .of("again", IllegalStateException.class, keys -> keys.again());
    }

    /** "RESULT: bytes, at most 8,192." */
    private static void theResultHoldsAllItsBytes() {
        for (int kind : new int[] {2, 3}) {
            new Refusal("a tape of 50, a result of 77", desk -> lay(desk, 50))
                    .of("hash(" + kind + ", 8193)", IllegalArgumentException.class, keys -> keys.hash(kind, 8193))
                    .butNot("hash(" + kind + ", 8192)", 8192, keys -> keys.hash(kind, 8192));
        }
        Desk desk = laid(50);
        desk.next().hash(2, Sizes.RESULT);
        Check.same("again of all of it", desk.next().again(), Sizes.RESULT);
        Check.same("its first byte", desk.tapeByte(0), desk.next().result(0));
        Check.same("its last byte", desk.tapeByte(Sizes.RESULT - 1), desk.next().result(Sizes.RESULT - 1));
    }

    private static void whatMakesNoResultLeavesIt() {
        String result = laid(0).resultAccount();
        keptResult("keys", laid(64), keys -> keys.keys(1), result);
        keptResult("alter", laid(64), keys -> keys.alter(0, 1), result);
        keptResult("again", laid(64), keys -> keys.again(), result);
        keptResult("verify", laid(2420), keys -> keys.verify(1, 0), result);
        keptResult("load", laid(1312), keys -> keys.load(3, false), result);
        keptResult("part", laid(1), keys -> keys.part(1, true, 0), result);
        keptResult("told", laid(1), keys -> keys.told(1, 1), result);
    }

    private static void keptResult(String call, Desk desk, Refusal.Act act, String due) {
        act.on(desk.next());
        Check.same(call + " leaves the result", desk.resultAccount(), due);
    }

    /** "what is thrown comes in the order in which a call tells it." */
    private static void whatIsThrownComesInOrder() {
        new Refusal("8 keys and a tape of 50", desk -> KeysEdgeTest.eight(desk).tape(Check.stream("tape", 50)))
                .of("keys(0): length, then room", IllegalArgumentException.class, keys -> keys.keys(0))
                .of("keys(6): set, then room", IllegalArgumentException.class, keys -> keys.keys(6))
                .of("load(0, false): length, then room", IllegalArgumentException.class, keys -> keys.load(0, false))
                .of("part(8, true, -1): keys, then byte", NoSuchElementException.class, keys -> keys.part(8, true, -1))
                .of("part(6, true, -1): part, then byte", NoSuchElementException.class, keys -> keys.part(6, true, -1))
                .of("told(8, 3): keys, then what", NoSuchElementException.class, keys -> keys.told(8, 3))
                .of("seal(8): keys, then length", NoSuchElementException.class, keys -> keys.seal(8))
                .of("seal(3): kind, then length", NoSuchElementException.class, keys -> keys.seal(3))
                .of("open(8): keys, then length", NoSuchElementException.class, keys -> keys.open(8))
                .of("sign(8, 256): keys, then context", NoSuchElementException.class, keys -> keys.sign(8, 256))
                .of("sign(6, 19): part, then length", NoSuchElementException.class, keys -> keys.sign(6, 19))
                .of("verify(8, -1): keys, then context", NoSuchElementException.class, keys -> keys.verify(8, -1))
                .of("verify(0, 0): kind, then length", NoSuchElementException.class, keys -> keys.verify(0, 0));
        new Refusal("8 keys and a wrong part of 800", desk -> {
            KeysEdgeTest.eight(desk).fill(800);
            desk.next().alter(0, 255 ^ desk.tapeByte(0));
            desk.next().alter(1, 255 ^ desk.tapeByte(1));
        })
                .of("load(0, false): check, room", UnsupportedOperationException.class, keys -> keys.load(0, false))
                .of("load(0, true): length, then check", IllegalArgumentException.class, keys -> keys.load(0, true));
    }

    /** "SETS: 0, 1, 2: ML-KEM-512, ML-KEM-768, ML-KEM-1024; 3, 4, 5: ML-DSA-44, ML-DSA-65, ML-DSA-87." */
    private static void setsAreSix() {
        for (int set = -1; set <= 6; set++) {
            int number = set;
            Refusal refusal = new Refusal("a tape of " + Sizes.seed(set), desk -> desk.fill(Sizes.seed(number)));
            if (set < 0 || set > 5) {
                refusal.of("keys(" + set + ")", IllegalArgumentException.class, keys -> keys.keys(number));
            } else {
                refusal.butNot("keys(" + set + ")", 0, keys -> keys.keys(number));
                Desk desk = new Desk();
                desk.quickKeys(set);
                Check.same("set " + set + ": what is told", desk.next().told(0, 0) + " " + desk.next().told(0, 1) + " "
                        + desk.next().told(0, 2), set + " " + Sizes.PUBLIC[set] + " " + Sizes.SECRET[set]);
            }
        }
    }

    /** "KEYS, at most 8, numbered from 0". */
    private static void keysAreEightNumberedFromZero() {
        Desk desk = new Desk();
        for (int i = 0; i < Sizes.MOST_KEYS; i++) {
            Check.same("the number of keys made", i % 2 == 0 ? desk.quickKeys(i % 6) : desk.loadPublic(i - 1), i);
            Check.same("how many there are", desk.next().count(1), i + 1);
        }
        for (int i = 0; i < Sizes.MOST_KEYS; i++) {
            Check.same("the set of keys " + i, desk.next().told(i, 0), i / 2 * 2 % 6);
        }
        desk.fill(64);
        Check.refused("the ninth", IllegalStateException.class, () -> desk.next().keys(0));
        Check.same("how many there are then", desk.next().count(1), 8);
        Check.refused("keys 8", NoSuchElementException.class, () -> desk.next().told(8, 0));
        Check.refused("keys -1", NoSuchElementException.class, () -> desk.next().told(-1, 0));
    }

    /** "a public part ... and perhaps a secret part". */
    private static void aSecretPartMayBeMissing() {
        for (int set = 0; set < 6; set++) {
            int number = set;
            new Refusal("a public part of set " + set + " alone", desk -> {
                desk.quickKeys(number);
                desk.loadPublic(0);
                desk.fill(number < 3 ? Sizes.CIPHER[number] : 32);
            })
                    .of("show(1, true)", NoSuchElementException.class, keys -> keys.show(1, true))
                    .of("part(1, true, 0)", NoSuchElementException.class, keys -> keys.part(1, true, 0))
                    .of("open(1)", NoSuchElementException.class, keys -> keys.open(1))
                    .of("sign(1, 0)", NoSuchElementException.class, keys -> keys.sign(1, 0))
                    .butNot("told(1, 2)", 0, keys -> keys.told(1, 2))
                    .butNot("show(1, false)", Sizes.PUBLIC[set], keys -> keys.show(1, false));
        }
    }

    /** "d the first 32 bytes of the TAPE, z the others". */
    private static void aSeedOfMlKemHasTwoHalves() {
        byte[] seed = Check.stream("seed", 64);
        for (int set = 0; set < 3; set++) {
            String plain = partOf(set, seed, -1, false);
            for (int at : new int[] {0, 31, 32, 63}) {
                Check.same("set " + set + ", byte " + at + " of the seed: the same public part",
                        partOf(set, seed, at, false).equals(plain), at > 31);
            }
            Desk desk = new Desk().tape(seed);
            desk.next().keys(set);
            Check.same("set " + set + ": z ends the secret part", Check.hex(desk.partsEnd(0, true, 32)),
                    Check.hex(seed).substring(64));
        }
    }

    /** The digest of a part of keys made with one byte of the seed altered. */
    private static String partOf(int set, byte[] seed, int altered, boolean secret) {
        Desk desk = new Desk().tape(seed);
        if (altered >= 0) {
            desk.next().alter(altered, 1);
        }
        desk.next().keys(set);
        return desk.partDigest(0, secret);
    }

    /** "(the TAPE is the seed)". */
    private static void aSeedOfMlDsaIsTheTape() {
        byte[] seed = Check.stream("seed", 32);
        for (int set = 3; set < 6; set++) {
            String plain = partOf(set, seed, -1, false);
            for (int at : new int[] {0, 31}) {
                Check.same("set " + set + ", byte " + at + " of the seed: the same public part",
                        partOf(set, seed, at, false).equals(plain), false);
            }
        }
    }

    /** A signature of the tape, byte at altered, is put before a context of 3 and a message of 5, unaltered. */
    private static Desk signedWith(int set, int altered) {
        Desk desk = new Desk();
        desk.quickKeys(set);
        desk.tape(Check.stream("tape", 40)).next().alter(Math.max(altered, 0), altered < 0 ? 0 : 1);
        desk.next().sign(0, 3);
        desk.next().again();
        return desk.write(Arrays.copyOfRange(Check.stream("tape", 40), 32, 40));
    }

    /** "with the TAPE's first 32 bytes as rnd". */
    private static void chanceEndsWhereTheContextBegins() {
        for (int set = 3; set < 6; set++) {
            String plain = signedWith(set, -1).tapeDigest();
            for (int at : new int[] {0, 31, 32, 34, 35, 39}) {
                String what = "set " + set + ", byte " + at + " altered: ";
                Check.same(what + "the same signature", signedWith(set, at).tapeDigest().equals(plain), false);
                Check.same(what + "good for the same message", signedWith(set, at).next().verify(0, 3), at < 32);
            }
        }
    }

    /** "M' = 0, the context's length, the context, the message". */
    private static void contextAndMessageAreApart() {
        for (int set = 3; set < 6; set++) {
            for (int n = 0; n <= 8; n++) {
                Check.same("set " + set + ", a context of " + n, signedWith(set, -1).next().verify(0, n), n == 3);
            }
        }
    }

    /** "A call that throws changes nothing": a run with refused calls answers as the same one without them does. */
    private static void refusedCallsLeaveNoTrace(int seed) {
        Random random = new Random(seed);
        Desk whole = new Desk();
        Desk without = new Desk();
        int refused = 0;
        while (whole.calls() < 460) {
            Refusal.Act act = random.nextInt(3) == 0 ? wildCall(random) : likelyCall(random, whole.next().count(0));
            Object answer;
            try {
                answer = act.on(whole.next());
            } catch (RuntimeException thrown) {
                refused++;
                continue;
            }
            Check.same("run " + seed + ", a call after " + refused + " refused", act.on(without.next()), answer);
        }
        Check.same("run " + seed + ": many are refused", refused > 50, true);
        Check.same("run " + seed + ": lengths", whole.lengths(), without.lengths());
        Check.same("run " + seed + ": the result", whole.resultDigest(), without.resultDigest());
    }

    /** A call that the tape's length makes likely to be taken. */
    private static Refusal.Act likelyCall(Random random, int tape) {
        int number = random.nextInt(3);
        int some = random.nextInt();
        switch (random.nextInt(12)) {
            case 0: return keys -> keys.feed(some, 1, some, 2, some);
            case 1: return keys -> keys.again();
            case 2: return keys -> keys.end(tape > 2500 ? 2420 + number : tape > 800 ? 768 : tape > 64 ? 64 : 32);
            case 3: return keys -> keys.hash(3, new int[] {32, 64, 768}[number]);
            case 4: return keys -> keys.keys(tape == 64 ? 0 : 3);
            case 5: return keys -> keys.seal(number);
            case 6: return keys -> keys.open(number);
            case 7: return keys -> keys.sign(number, 0);
            case 8: return keys -> keys.verify(number, 0);
            case 9: return keys -> keys.show(number, some > 0);
            case 10: return keys -> keys.load(number, some > 0);
            default: return keys -> keys.result(31);
        }
    }

    private static Refusal.Act wildCall(Random random) {
        int one = random.nextInt(14) - 2;
        int other = random.nextInt(400) - 100;
        boolean flag = random.nextBoolean();
        switch (random.nextInt(10)) {
            case 0: return keys -> keys.end(-1 - one * one);
            case 1: return keys -> keys.alter(other * 100, 1);
            case 2: return keys -> keys.keys(one);
            case 3: return keys -> keys.load(one, flag);
            case 4: return keys -> keys.part(one, flag, other * 20);
            case 5: return keys -> keys.told(one, other);
            case 6: return keys -> keys.seal(one);
            case 7: return keys -> keys.sign(one, other);
            case 8: return keys -> keys.verify(one, other);
            default: return keys -> keys.hash(one, other * 100);
        }
    }
}
