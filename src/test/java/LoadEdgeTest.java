import java.util.Arrays;

/** The boundary cases of promise 7: a test for each sentence that names one. */
public final class LoadEdgeTest {
    private static final int MODULUS = 3329;

    public static void main(String[] args) {
        for (int set = 0; set < 6; set++) {
            theLengthIsThePartsAlone(set, false);
            theNinthKeysAreRefused(set, false);
        }
        for (int set = 0; set < 3; set++) {
            theLengthIsThePartsAlone(set, true);
            theNinthKeysAreRefused(set, true);
            numbersEndBelowTheModulus(set);
            everyNumberIsLookedAt(set);
            theSeedBehindTheNumbersIsFree(set);
            theHashIsLookedAtWhole(set);
            thePublicPartInASecretOneIsNotChecked(set);
            theRestOfASecretPartIsFree(set);
        }
        for (int set = 3; set < 6; set++) {
            secretPartsOfSignersAreRefused(set);
            ofSignersJustTheLengthIsChecked(set);
        }
        sixSetsAreKnown();
        refusalsComeInTheirOrder();
        Check.finish();
    }

    /** Keys 0 of the set, and a part of them on the tape; the result is that part, too. */
    private static void layPart(Desk desk, int set, boolean secret) {
        desk.quickKeys(set);
        desk.next().show(0, secret);
        desk.next().again();
    }

    private static Desk withPart(int set, boolean secret) {
        Desk desk = new Desk();
        layPart(desk, set, secret);
        return desk;
    }

    /** "IllegalArgumentException: another ... length". */
    private static void theLengthIsThePartsAlone(int set, boolean secret) {
        int due = Sizes.part(set, secret);
        String call = "load(" + set + ", " + secret + ")";
        for (int length : new int[] {0, 1, due - 1, due + 1, Sizes.part(set, !secret), Sizes.TAPE}) {
            new Refusal("a tape of " + length, desk -> {
                desk.quickKeys(set);
                desk.fill(length);
            }).of(call, IllegalArgumentException.class, keys -> keys.load(set, secret));
        }
        new Refusal("the part one byte short", desk -> {
            layPart(desk, set, secret);
            desk.next().end(due - 1);
        }).of(call, IllegalArgumentException.class, keys -> keys.load(set, secret));
        new Refusal("the part and a byte", desk -> {
            layPart(desk, set, secret);
            desk.write(new byte[1]);
        }).of(call, IllegalArgumentException.class, keys -> keys.load(set, secret));
        new Refusal("the part", desk -> layPart(desk, set, secret)).butNot(call, 1, keys -> keys.load(set, secret));
    }

    /** "IllegalArgumentException: another SET". */
    private static void sixSetsAreKnown() {
        for (int from : new int[] {0, 5}) {
            Refusal refusal = new Refusal("a public part of set " + from, desk -> layPart(desk, from, false));
            for (int set : new int[] {-1, 6, 7, 256, Integer.MIN_VALUE, Integer.MAX_VALUE}) {
                refusal.of("load(" + set + ", false)", IllegalArgumentException.class, keys -> keys.load(set, false));
                refusal.of("load(" + set + ", true)", IllegalArgumentException.class, keys -> keys.load(set, true));
            }
        }
    }

    /** "IllegalArgumentException: ... or a secret part of 3 .. 5". */
    private static void secretPartsOfSignersAreRefused(int set) {
        new Refusal("a secret part of set " + set, desk -> layPart(desk, set, true))
                .of("load(" + set + ", true)", IllegalArgumentException.class, keys -> keys.load(set, true));
        new Refusal("a public part of set " + set, desk -> layPart(desk, set, false))
                .of("load(" + set + ", true)", IllegalArgumentException.class, keys -> keys.load(set, true));
    }

    /** "UnsupportedOperationException: of ML-KEM, the check of 7.2 (modulus; of a public part)". */
    private static void numbersEndBelowTheModulus(int set) {
        int last = Sizes.numbers(set) / 3 * 2 - 1;
        for (int place : new int[] {0, 1, 254, 255, 256, 257, last - 1, last}) {
            for (int number : new int[] {MODULUS, MODULUS + 1, 4095}) {
                new Refusal("set " + set + ", number " + place + " is " + number, desk -> {
                    layPart(desk, set, false);
                    putNumber(desk, place, number);
                }).of("load", UnsupportedOperationException.class, keys -> keys.load(set, false));
            }
            for (int number : new int[] {0, MODULUS - 1}) {
                Desk desk = withPart(set, false);
                putNumber(desk, place, number);
                Check.same("set " + set + ", number " + place + " is " + number, desk.next().load(set, false), 1);
            }
        }
    }

    /** The same for each number of a public part, without a look at what is left. */
    private static void everyNumberIsLookedAt(int set) {
        int count = Sizes.numbers(set) / 3 * 2;
        Desk desk = withPart(set, false);
        for (int place = 0; place < count; place++) {
            if (place % 40 == 0) {
                desk = withPart(set, false);
            }
            Desk used = desk;
            int old = putNumber(desk, place, MODULUS);
            Check.refused("set " + set + ", number " + place + " is too large", UnsupportedOperationException.class,
                    () -> used.next().load(set, false));
            putNumber(desk, place, old);
        }
        Check.same("set " + set + ", put right again", desk.next().load(set, false), 1);
    }

    /** Three bytes of the tape hold two numbers of 12 bits; answers what stood there. */
    private static int putNumber(Desk desk, int place, int number) {
        int at = place / 2 * 3 + place % 2;
        int shift = place % 2 * 4;
        int two = desk.tapeByte(at) | desk.tapeByte(at + 1) << 8;
        int old = two >> shift & 0xfff;
        int turned = (old ^ number) << shift;
        desk.next().alter(at, turned);
        desk.next().alter(at + 1, turned >> 8);
        return old;
    }

    private static void theSeedBehindTheNumbersIsFree(int set) {
        Desk desk = withPart(set, false);
        for (int i = Sizes.numbers(set); i < Sizes.PUBLIC[set]; i++) {
            desk.next().alter(i, 255 ^ desk.tapeByte(i));
        }
        Check.same("set " + set + ": a seed of 255s is no number", desk.next().load(set, false), 1);
    }

    /** "7.3 (hash; of a secret one, that alone)": each byte of it, and each end of what is hashed. */
    private static void theHashIsLookedAtWhole(int set) {
        int start = Sizes.numbers(set);
        int hash = start + Sizes.PUBLIC[set];
        for (int at : new int[] {start, start + 1, hash - 33, hash - 32, hash - 1, hash, hash + 31}) {
            new Refusal("a secret part of set " + set + " altered at " + at, desk -> {
                layPart(desk, set, true);
                desk.next().alter(at, 1);
            }).of("load", UnsupportedOperationException.class, keys -> keys.load(set, true));
        }
        Desk desk = withPart(set, true);
        for (int at = hash; at < hash + 32; at++) {
            desk.next().alter(at, 0x80);
            Check.refused("set " + set + ", byte " + at + " of the hash", UnsupportedOperationException.class,
                    () -> desk.next().load(set, true));
            desk.next().alter(at, 0x80);
        }
        Check.same("set " + set + ", put right again", desk.next().load(set, true), 1);
    }

    /** "(The public part in a secret one is not checked; ...)". */
    private static void thePublicPartInASecretOneIsNotChecked(int set) {
        byte[] wild = new byte[Sizes.PUBLIC[set]];
        Arrays.fill(wild, (byte) 255);
        Desk desk = new Desk().tape(Check.join(Check.stream("any", Sizes.numbers(set)), wild, Check.sha3(wild),
                Check.stream("any", 32)));
        Check.same("set " + set + ": numbers of 4095 in a secret part", desk.next().load(set, true), 0);
        Check.same("its public part", desk.partDigest(0, false), Check.hex(Check.sha3(wild)));
        desk.tape(wild);
        Check.refused("set " + set + ": the same alone", UnsupportedOperationException.class,
                () -> desk.next().load(set, false));
    }

    /** "that alone": neither the numbers before the public part nor the bytes behind the hash are looked at. */
    private static void theRestOfASecretPartIsFree(int set) {
        int hash = Sizes.numbers(set) + Sizes.PUBLIC[set];
        Desk desk = withPart(set, true);
        for (int at : new int[] {0, 1, 2, Sizes.numbers(set) - 2, Sizes.numbers(set) - 1, hash + 32, hash + 63}) {
            desk.next().alter(at, 255 ^ desk.tapeByte(at));
        }
        Check.same("set " + set + ": the rest of a secret part is free", desk.next().load(set, true), 1);
        Check.same("the first byte is kept", desk.next().part(1, true, 0), 255);
        Check.same("the last byte is kept", desk.next().part(1, true, Sizes.SECRET[set] - 1), 255);
    }

    /** "of 3 .. 5 just the length is". */
    private static void ofSignersJustTheLengthIsChecked(int set) {
        for (int value : new int[] {0, 255}) {
            byte[] part = new byte[Sizes.PUBLIC[set]];
            Arrays.fill(part, (byte) value);
            Desk desk = new Desk().tape(part);
            Check.same("a public part of set " + set + ", all " + value, desk.next().load(set, false), 0);
            Check.same("its bytes", desk.partDigest(0, false), Check.hex(Check.sha3(part)));
        }
    }

    /** "IllegalStateException: 8 are there." */
    private static void theNinthKeysAreRefused(int set, boolean secret) {
        String call = "load(" + set + ", " + secret + ")";
        new Refusal("8 keys", desk -> layPartOf(KeysEdgeTest.eight(desk), set, secret))
                .of(call, IllegalStateException.class, keys -> keys.load(set, secret));
        new Refusal("7 keys", desk -> layPartOf(KeysEdgeTest.seven(desk), set, secret))
                .butNot(call, 7, keys -> keys.load(set, secret));
    }

    private static void layPartOf(Desk desk, int number, boolean secret) {
        desk.next().end(0);
        desk.next().show(number, secret);
        desk.next().again();
    }

    /** Length and set before the check, the check before the room. */
    private static void refusalsComeInTheirOrder() {
        new Refusal("8 keys and a wrong public part", desk -> {
            layPartOf(KeysEdgeTest.eight(desk), 0, false);
            putNumber(desk, 511, MODULUS);
        })
                .of("load(0, false)", UnsupportedOperationException.class, keys -> keys.load(0, false))
                .of("load(1, false)", IllegalArgumentException.class, keys -> keys.load(1, false))
                .of("load(0, true)", IllegalArgumentException.class, keys -> keys.load(0, true))
                .of("load(6, false)", IllegalArgumentException.class, keys -> keys.load(6, false))
                .of("load(-1, false)", IllegalArgumentException.class, keys -> keys.load(-1, false));
        new Refusal("8 keys and a wrong secret part", desk -> {
            layPartOf(KeysEdgeTest.eight(desk), 2, true);
            desk.next().alter(3168 - 33, 1);
        })
                .of("load(2, true)", UnsupportedOperationException.class, keys -> keys.load(2, true))
                .of("load(1, true)", IllegalArgumentException.class, keys -> keys.load(1, true));
        new Refusal("8 keys and a secret part of a signer", desk -> layPartOf(KeysEdgeTest.eight(desk), 3, true))
                .of("load(3, true)", IllegalArgumentException.class, keys -> keys.load(3, true));
        new Refusal("a wrong public part, one byte short", desk -> {
            layPart(desk, 1, false);
            putNumber(desk, 0, 4095);
            desk.next().end(1183);
        }).of("load(1, false)", IllegalArgumentException.class, keys -> keys.load(1, false));
    }
}
