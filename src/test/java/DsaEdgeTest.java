import java.lang.reflect.Field;
import java.util.Arrays;
import java.util.NoSuchElementException;

/** The boundary cases of promises 13 and 14: a test for each sentence that names one. */
public final class DsaEdgeTest {
    private static final int LEAST = Integer.MIN_VALUE;
    private static final int MOST = Integer.MAX_VALUE;
    private static final int[] OTHER_CONTEXTS = {-1, 256, 257, 511, LEAST, LEAST + 255, MOST};

    public static void main(String[] args) {
        for (int set = 3; set < 6; set++) {
            signTakesAContextOfZeroTo255(set);
            signNeedsATapeOfChanceAndContext(set);
            verifyTakesAContextOfZeroTo255(set);
            verifyNeedsATapeOfSignatureAndContext(set);
            aFullTapeIsVerified(set);
            aByteAlteredIsNotGood(set);
            Forge forge = new Forge(set);
            hintsOfTheirFormAreGood(forge);
            hintsOutOfOrderAreNotGood(forge);
            hintsBehindTheLastAreNotGood(forge);
            endsOfRowsThatFallAreNotGood(forge);
            moreHintsThanTheMostAreNotGood(forge);
            theAnswerEndsBelowItsBound(forge);
            stepsEndWhereDue(forge);
            everyByteOfTheChallengeCounts(forge);
        }
        for (String[] due : Vectors.FULL_TAPE) {
            aFullTapeIsSigned(due);
        }
        signNeedsKeysOfItsKindWithASecretPart();
        verifyNeedsKeysOfItsKind();
        twoHundredPassesAreTheMost();
        theRestEndsBelowItsBound();
        Check.finish();
    }

    /** Keys 0 of the set, a full result and a tape. */
    private static void lay(Desk desk, int set, int length) {
        edgeKeys(desk, set);
        desk.fill(length);
    }

    private static Desk edgeKeys(Desk desk, int set) {
        desk.tape(Check.stream("edge keys " + set, 32)).next().keys(set);
        return desk;
    }

    /** 13: "a context of n bytes, 0 .. 255"; "IllegalArgumentException: another n". */
    private static void signTakesAContextOfZeroTo255(int set) {
        for (int length : new int[] {32 + 255, 32 + 256, 600, Sizes.TAPE}) {
            Refusal refusal = new Refusal("set " + set + ", a tape of " + length, desk -> lay(desk, set, length));
            for (int n : OTHER_CONTEXTS) {
                refusal.of("sign(0, " + n + ")", IllegalArgumentException.class, keys -> keys.sign(0, n));
            }
            refusal.butNot("sign(0, 0)", true, keys -> keys.sign(0, 0) > 0);
            refusal.butNot("sign(0, 255)", true, keys -> keys.sign(0, 255) > 0);
        }
    }

    /** 13: "or the TAPE is shorter." */
    private static void signNeedsATapeOfChanceAndContext(int set) {
        for (int n : new int[] {0, 1, 254, 255}) {
            String call = "sign(0, " + n + ")";
            for (int length : new int[] {0, 31, 32 + n - 1}) {
                new Refusal("set " + set + ", a tape of " + length, desk -> lay(desk, set, length))
                        .of(call, IllegalArgumentException.class, keys -> keys.sign(0, n));
            }
            Desk desk = new Desk();
            lay(desk, set, 32 + n);
            Check.same("set " + set + ", no message, " + call, desk.next().sign(0, n) > 0, true);
            Check.same("lengths after it", desk.lengths(), "0 1 " + Sizes.SIGNATURE[set]);
        }
    }

    /** 13: "the message" that fills the tape. */
    private static void aFullTapeIsSigned(String[] due) {
        int set = Integer.parseInt(due[0]);
        int n = Integer.parseInt(due[1]);
        String what = "set " + set + ", a full tape with a context of " + n + ": ";
        Desk desk = new Desk();
        lay(desk, set, Sizes.TAPE);
        Check.same(what + "sign", desk.next().sign(0, n), Integer.parseInt(due[2]));
        Check.same(what + "lengths", desk.lengths(), "0 1 " + Sizes.SIGNATURE[set]);
        Check.same(what + "signature", desk.resultDigest(), due[3]);
    }

    /** Keys 0 of ML-DSA and 1 of ML-KEM with both parts, 2 and 3 their public parts alone; a result of 77. */
    private static void layKeys(Desk desk, int set) {
        edgeKeys(desk, set);
        desk.quickKeys(1);
        desk.loadPublic(0);
        desk.loadPublic(1);
        desk.result(77);
    }

    /** 13: "NoSuchElementException: no such KEYS of ML-DSA with a secret part"; it comes before the others. */
    private static void signNeedsKeysOfItsKindWithASecretPart() {
        for (int length : new int[] {31, 32, 400}) {
            Refusal refusal = new Refusal("4 keys and a tape of " + length, desk -> {
                layKeys(desk, 4);
                desk.tape(Check.stream("long", length));
            });
            for (int number : new int[] {-1, 1, 2, 3, 4, 8, LEAST, MOST}) {
                for (int n : new int[] {-1, 0, 256}) {
                    refusal.of("sign(" + number + ", " + n + ")", NoSuchElementException.class,
                            keys -> keys.sign(number, n));
                }
            }
            if (length >= 32) {
                refusal.butNot("sign(0, 0)", true, keys -> keys.sign(0, 0) > 0);
            }
        }
    }

    /**
     * 13: "IllegalStateException: 200 times were not enough. (The TAPE stays then.)" No seed will be found that needs
     * so many passes, so the object is made stricter: its slack (beta) is 285 instead of 78. With that these two need
     * 200 and 201, which the program that made Vectors says, too.
     */
    private static void twoHundredPassesAreTheMost() {
        Refusal refusal = new Refusal("one that needs 201 passes", desk -> {
            makeStricter(desk.next());
            edgeKeys(desk, 3).result(77).tape(Check.stream("patience 14", 32));
        });
        refusal.of("sign(0, 0)", IllegalStateException.class, keys -> keys.sign(0, 0));
        refusal.of("sign(1, 0)", NoSuchElementException.class, keys -> keys.sign(1, 0));
        refusal.of("sign(0, 1)", IllegalArgumentException.class, keys -> keys.sign(0, 1));
        Desk desk = new Desk();
        makeStricter(desk.next());
        edgeKeys(desk, 3).tape(Check.stream("patience 1491", 32));
        Check.same("one that needs 200 passes", desk.next().sign(0, 0), 200);
        Check.same("lengths after it", desk.lengths(), "0 1 2420");
        Check.same("its signature", desk.resultDigest(),
                "b2ecf60ac3cf466f2722859515d06aaeae4df00870d9a1aae7b6a351dab867b7");
    }

    private static void makeStricter(LatticeKeys keys) {
        try {
            LatticeKeys.DsaSet set = ((LatticeKeys.DsaSet[]) inside(keys, "dsaSets"))[0];
            Check.same("the slack of set 3", set.slack, 78);
            Field slack = LatticeKeys.DsaSet.class.getDeclaredField("slack");
            slack.setAccessible(true);
            slack.setInt(set, 285);
        } catch (ReflectiveOperationException other) {
            throw new AssertionError("the inside of the object is another", other);
        }
    }

    private static Object inside(LatticeKeys keys, String name) {
        try {
            Field field = LatticeKeys.class.getDeclaredField(name);
            field.setAccessible(true);
            return field.get(keys);
        } catch (ReflectiveOperationException other) {
            throw new AssertionError("the inside of the object is another", other);
        }
    }

    /**
     * Terms: "Sign_internal", which passes over a share of the low part (ct0) from gamma2 on. No seed is known that
     * comes just there, so the low part is altered inside the object: nothing before that look depends on it, so that
     * the pass that was good is good still, or is passed over for this alone. (In sets 4 and 5 no share is so long.)
     */
    private static void theRestEndsBelowItsBound() {
        Desk whole = edgeKeys(new Desk(), 3).tape(Check.stream("chance", 32));
        int passes = whole.next().sign(0, 0);
        byte[] challenge = whole.resultBytes(0, 32);
        int[] ball = Forge.ball(challenge, 39);
        for (int rest : new int[] {95231, -95231, 95232, -95232}) {
            Desk desk = edgeKeys(new Desk(), 3).tape(Check.stream("chance", 32));
            byte[] secretPart = ((LatticeKeys.KeyPair[]) inside(desk.next(), "pairs"))[0].secretPart;
            byte[] low = Forge.pack(lowPart(ball, rest), 13);
            System.arraycopy(low, 0, secretPart, 128 + 8 * 96, low.length);
            boolean good = Math.abs(rest) < 95232;
            Check.same("a rest of " + rest, desk.next().sign(0, 0) == passes, good);
            Check.same("the same challenge", Arrays.equals(desk.resultBytes(0, 32), challenge), good);
        }
    }

    /** A polynomial as it is packed, whose product with the challenge has this number at place 0. */
    private static int[] lowPart(int[] ball, int rest) {
        int[] told = new int[256];
        Arrays.fill(told, 4096);
        int left = 39;
        for (int i = 0; i < 256; i++) {
            if (ball[i] != 0) {
                int share = rest / left;
                // What goes over the end comes back with the other sign.
                told[(256 - i) % 256] -= i == 0 ? ball[i] * share : -ball[i] * share;
                rest -= share;
                left--;
            }
        }
        return told;
    }

    /** 14: "a context of n bytes, 0 .. 255"; "IllegalArgumentException: another n". */
    private static void verifyTakesAContextOfZeroTo255(int set) {
        int signature = Sizes.SIGNATURE[set];
        for (int length : new int[] {signature + 255, signature + 256, signature + 600, Sizes.TAPE}) {
            Refusal refusal = new Refusal("set " + set + ", a tape of " + length, desk -> lay(desk, set, length));
            for (int n : OTHER_CONTEXTS) {
                refusal.of("verify(0, " + n + ")", IllegalArgumentException.class, keys -> keys.verify(0, n));
            }
            refusal.butNot("verify(0, 0)", false, keys -> keys.verify(0, 0));
            refusal.butNot("verify(0, 255)", false, keys -> keys.verify(0, 255));
        }
    }

    /** 14: "or the TAPE is shorter." */
    private static void verifyNeedsATapeOfSignatureAndContext(int set) {
        int signature = Sizes.SIGNATURE[set];
        for (int n : new int[] {0, 1, 254, 255}) {
            String call = "verify(0, " + n + ")";
            for (int length : new int[] {0, 32 + n, signature - 1, signature + n - 1}) {
                new Refusal("set " + set + ", a tape of " + length, desk -> lay(desk, set, length))
                        .of(call, IllegalArgumentException.class, keys -> keys.verify(0, n));
            }
            byte[] context = Check.stream("context", n);
            Desk desk = edgeKeys(new Desk(), set).tape(Check.join(Check.stream("chance", 32), context));
            desk.next().sign(0, n);
            desk.next().again();
            desk.write(context);
            Check.same("set " + set + ", no message, " + call, desk.next().verify(0, n), true);
            Check.same("lengths after it", desk.lengths(), "0 1 " + signature);
        }
    }

    /** 14: "NoSuchElementException: no such KEYS of ML-DSA"; it comes before the others. */
    private static void verifyNeedsKeysOfItsKind() {
        for (int length : new int[] {3308, 3309, 4000}) {
            Refusal refusal = new Refusal("4 keys and a tape of " + length, desk -> {
                layKeys(desk, 4);
                desk.fill(length);
            });
            for (int number : new int[] {-1, 1, 3, 4, 8, LEAST, MOST}) {
                for (int n : new int[] {-1, 0, 256}) {
                    refusal.of("verify(" + number + ", " + n + ")", NoSuchElementException.class,
                            keys -> keys.verify(number, n));
                }
            }
            if (length >= 3309) {
                refusal.butNot("verify(0, 0)", false, keys -> keys.verify(0, 0));
                refusal.butNot("verify(2, 0), a public part", false, keys -> keys.verify(2, 0));
            }
        }
    }

    /** 14: "the message" that fills the tape, to its last byte. */
    private static void aFullTapeIsVerified(int set) {
        int length = Sizes.TAPE - Sizes.SIGNATURE[set];
        for (int altered : new int[] {-1, 0, Sizes.SIGNATURE[set], Sizes.TAPE - 1}) {
            Desk desk = edgeKeys(new Desk(), set);
            desk.quickKeys(5);
            desk.quickKeys(0);
            layMessage(desk.tape(Check.stream("chance", 32)), length);
            desk.next().sign(0, 0);
            desk.next().again();
            layMessage(desk, length);
            if (altered >= 0) {
                desk.next().alter(altered, 1);
            }
            Check.same("set " + set + ", lengths of a full tape", desk.next().count(0), Sizes.TAPE);
            Check.same("set " + set + ", a full tape, altered at " + altered, desk.next().verify(0, 0), altered < 0);
            Check.same("the tape is taken", desk.next().count(0), 0);
        }
    }

    /** A long message behind what the tape has, in few calls: zeros, then parts of keys 1 and 2. */
    private static void layMessage(Desk desk, int length) {
        int longPart = Sizes.SECRET[5];
        int shortPart = Sizes.PUBLIC[0];
        desk.write(new byte[length % longPart % shortPart]);
        layParts(desk, 1, true, length / longPart);
        layParts(desk, 2, false, length % longPart / shortPart);
    }

    private static void layParts(Desk desk, int number, boolean secret, int times) {
        desk.next().show(number, secret);
        for (int i = 0; i < times; i++) {
            desk.next().again();
        }
    }

    /** What it is: "what is altered refused": each byte of a signature. */
    private static void aByteAlteredIsNotGood(int set) {
        Desk desk = null;
        for (int at = 0; at < Sizes.SIGNATURE[set]; at++) {
            if (at % 160 == 0) {
                desk = edgeKeys(new Desk(), set).tape(Check.stream("chance", 32));
                desk.next().sign(0, 0);
                desk.next().again();
                Check.same("set " + set + ", nothing altered", desk.next().verify(0, 0), true);
            }
            desk.next().again();
            desk.next().alter(at, 1 << at % 8);
            Check.same("set " + set + ", byte " + at + " altered", desk.next().verify(0, 0), false);
        }
    }

    private static void judge(String what, Forge forge, byte[] signature, boolean due) {
        Desk desk = new Desk().tape(forge.publicPart);
        desk.next().load(forge.set, false);
        desk.tape(signature);
        Check.same("set " + forge.set + ", " + what, desk.next().verify(0, 0), due);
        Check.same("lengths after it", desk.lengths(), "0 1 0");
    }

    /** Places by row, none but in one row. */
    private static int[][] inRow(Forge forge, int row, int... places) {
        int[][] all = new int[forge.rows][0];
        all[row] = places;
        return all;
    }

    private static int[] run(int from, int count) {
        int[] numbers = new int[count];
        for (int i = 0; i < count; i++) {
            numbers[i] = from + i;
        }
        return numbers;
    }

    /** 14: "whether it is good", of hints from none to the most. */
    private static void hintsOfTheirFormAreGood(Forge forge) {
        int last = forge.rows - 1;
        int[][] both = new int[forge.rows][];
        Arrays.fill(both, new int[] {0, 255});
        int[][][] forms = {new int[forge.rows][0], inRow(forge, 0, 0), inRow(forge, last, 0), inRow(forge, last, 255),
            inRow(forge, 0, run(0, forge.mostHints)), inRow(forge, last, run(256 - forge.mostHints, forge.mostHints)),
            inRow(forge, last - 1, run(0, forge.mostHints - 1)), both};
        for (int i = 0; i < forms.length; i++) {
            judge("hints in form " + i, forge, forge.hinted(forms[i], forge.form(forms[i])), true);
        }
    }

    /** 14: "(One that is not of its form is not good.)": places that do not rise within a row. */
    private static void hintsOutOfOrderAreNotGood(Forge forge) {
        int last = forge.rows - 1;
        int most = forge.mostHints;
        int[][] wrong = {{5, 5}, {0, 0}, {6, 5}, {1, 0}, {127, 127}, {128, 127}, {200, 150}, {255, 254}, {255, 255}};
        for (int row : new int[] {0, last}) {
            for (int[] two : wrong) {
                judge("places " + two[0] + " and " + two[1], forge,
                        forge.hinted(inRow(forge, row, two), forge.form(inRow(forge, row, two))), false);
            }
            int[] places = run(0, most);
            places[most - 1] = most - 2;
            judge("the last place twice", forge,
                    forge.hinted(inRow(forge, row, run(0, most - 1)), forge.form(inRow(forge, row, places))), false);
        }
        int[][] rows = inRow(forge, 0, 9);
        rows[1] = new int[] {9};
        rows[last] = new int[] {8};
        judge("places that fall from row to row", forge, forge.hinted(rows, forge.form(rows)), true);
    }

    /** The same: what is not used is zero. */
    private static void hintsBehindTheLastAreNotGood(Forge forge) {
        for (int count : new int[] {0, 3, forge.mostHints - 1}) {
            int[][] places = inRow(forge, 0, run(0, count));
            for (int at : new int[] {count, forge.mostHints - 1}) {
                byte[] hints = forge.form(places);
                hints[at] = (byte) 255;
                judge("a byte behind " + count + " hints", forge, forge.hinted(places, hints), false);
            }
        }
    }

    /** The same: a row does not end before the one before it. A hint at place 0 looks unused when it is given up. */
    private static void endsOfRowsThatFallAreNotGood(Forge forge) {
        for (int row = 0; row < forge.rows - 1; row++) {
            byte[] hints = new byte[forge.mostHints + forge.rows];
            hints[forge.mostHints + row] = 1;
            judge("a row that ends before row " + row, forge, forge.hinted(inRow(forge, row, 0), hints), false);
        }
    }

    /** The same: one hint more than the most, whose place would be read out of the rows' ends. */
    private static void moreHintsThanTheMostAreNotGood(Forge forge) {
        int last = forge.rows - 1;
        int most = forge.mostHints;
        int[][] read = inRow(forge, 0, run(0, most - 1));
        read[last] = new int[] {5, most - 1};
        int[][] written = inRow(forge, 0, run(0, most - 1));
        written[last] = new int[] {5};
        byte[] hints = forge.form(written);
        hints[most + last] = (byte) (most + 1);
        judge("one hint too many in the last row", forge, forge.hinted(read, hints), false);
        hints = forge.form(inRow(forge, 0, run(0, most)));
        Arrays.fill(hints, most, most + forge.rows, (byte) (most + 1));
        read = inRow(forge, 0, run(0, most + 1));
        read[0][most] = most + 1;
        judge("one hint too many in the first row", forge, forge.hinted(read, hints), false);
        for (int end : new int[] {127, 128, 255}) {
            Arrays.fill(hints, most, most + forge.rows, (byte) end);
            judge("rows that end at " + end, forge, forge.hinted(read, hints), false);
        }
    }

    /** 14: "whether it is good", of numbers around the bound of the answer and at the ends of what can be written. */
    private static void theAnswerEndsBelowItsBound(Forge forge) {
        int bound = forge.bound;
        int[] numbers = {1 - bound, bound - 1, -bound, bound, 1 - forge.top, forge.top};
        for (int[] place : new int[][] {{0, 0}, {0, 255}, {forge.columns - 1, 0}, {forge.columns - 1, 255}}) {
            for (int i = 0; i < numbers.length; i++) {
                judge("the answer " + numbers[i] + " at " + place[0] + ", " + place[1], forge,
                        forge.answered(place[0], place[1], numbers[i]), i < 2);
            }
        }
    }

    /** 14: "whether it is good", of products at the ends and in the middle of the steps that the high bits tell. */
    private static void stepsEndWhereDue(Forge forge) {
        long step = forge.step;
        long half = step / 2;
        long end = Forge.MODULUS - 1;
        long[] numbers = {0, 1, half, half + 1, step - 1, step, step + 1, step + half, step + half + 1,
            end - step - 1, end - step, end - step + 1, end - half, end - half + 1, end - 1, end};
        for (long number : numbers) {
            for (int row : new int[] {0, forge.rows - 1}) {
                for (int at : new int[] {0, 255}) {
                    String what = number + " at " + row + ", " + at;
                    judge(what, forge, forge.reaching(number, row, at, false), true);
                    judge(what + ", with a hint", forge, forge.reaching(number, row, at, true), true);
                }
            }
        }
    }

    /** 14: "whether it is good": nothing but the challenge is altered, and nothing else depends on it. */
    private static void everyByteOfTheChallengeCounts(Forge forge) {
        byte[] signature = forge.answered(0, 0, 1);
        for (int i = 0; i < forge.challengeLength; i++) {
            byte[] altered = signature.clone();
            altered[i] ^= (byte) (1 << i % 8);
            judge("byte " + i + " of the challenge altered", forge, altered, false);
        }
    }
}
