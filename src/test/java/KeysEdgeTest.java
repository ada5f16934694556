import java.util.NoSuchElementException;

/** The boundary cases of promises 6, 8, 9 and 10: a test for each sentence that names one. */
public final class KeysEdgeTest {
    private static final int LEAST = Integer.MIN_VALUE;
    private static final int MOST = Integer.MAX_VALUE;

    public static void main(String[] args) {
        keysTakeTheSeedsLengthAlone();
        keysKnowSixSets();
        theNinthKeysAreRefused();
        partNeedsKeys();
        partNeedsAPart();
        partNeedsAByte();
        showNeedsKeysAndPart();
        showGivesTheShortestAndTheLongest();
        toldNeedsKeys();
        toldKnowsThreeNumbers();
        toldOfKeysWithoutASecretPart();
        Check.finish();
    }

    /** Keys 0 of ML-KEM and 1 of ML-DSA with both parts, 2 and 3 their public parts alone; a result of 77, a tape. */
    private static void lay(Desk desk) {
        desk.quickKeys(1);
        desk.quickKeys(5);
        desk.loadPublic(0);
        desk.loadPublic(1);
        desk.result(77).tape(Check.stream("tape", 9));
    }

    /** 6: "KEYS of a SET out of the TAPE, 64 (0 .. 2) or 32 bytes (3 .. 5)"; "another ... length". */
    private static void keysTakeTheSeedsLengthAlone() {
        for (int length : new int[] {0, 1, 31, 32, 33, 63, 64, 65, 96, Sizes.TAPE}) {
            Refusal refusal = new Refusal("a tape of " + length, desk -> {
                desk.quickKeys(0);
                desk.fill(length);
            });
            for (int set = 0; set < 6; set++) {
                int number = set;
                String call = "keys(" + set + ")";
                if (length == Sizes.seed(set)) {
                    refusal.butNot(call, 1, keys -> keys.keys(number));
                } else {
                    refusal.of(call, IllegalArgumentException.class, keys -> keys.keys(number));
                }
            }
        }
    }

    /** 6: "IllegalArgumentException: another SET". */
    private static void keysKnowSixSets() {
        for (int length : new int[] {32, 64}) {
            byte[] seed = Check.stream("seed", length);
            Refusal refusal = new Refusal("a tape of " + length, desk -> desk.result(77).tape(seed));
            for (int set : new int[] {-1, 6, 7, 256, LEAST, MOST}) {
                refusal.of("keys(" + set + ")", IllegalArgumentException.class, keys -> keys.keys(set));
            }
        }
    }

    /** 6: "IllegalStateException: 8 are there." */
    private static void theNinthKeysAreRefused() {
        for (int set = 0; set < 6; set++) {
            int number = set;
            int length = Sizes.seed(set);
            new Refusal("8 keys", desk -> eight(desk).tape(Check.stream("seed", length)))
                    .of("keys(" + set + ")", IllegalStateException.class, keys -> keys.keys(number));
            new Refusal("7 keys", desk -> seven(desk).tape(Check.stream("seed", length)))
                    .butNot("keys(" + set + ")", 7, keys -> keys.keys(number));
        }
        new Refusal("8 keys and a tape of 63", desk -> eight(desk).tape(Check.stream("seed", 63)))
                .of("keys(0)", IllegalArgumentException.class, keys -> keys.keys(0));
        new Refusal("8 keys and a tape of 64", desk -> eight(desk).tape(Check.stream("seed", 64)))
                .of("keys(6)", IllegalArgumentException.class, keys -> keys.keys(6))
                .of("keys(-1)", IllegalArgumentException.class, keys -> keys.keys(-1))
                .of("keys(3)", IllegalArgumentException.class, keys -> keys.keys(3));
    }

    /** Keys of all sets, one of them loaded. */
    static Desk seven(Desk desk) {
        for (int set = 0; set < 6; set++) {
            desk.quickKeys(set);
        }
        desk.loadPublic(4);
        return desk;
    }

    static Desk eight(Desk desk) {
        seven(desk).quickKeys(1);
        return desk;
    }

    /** 8: "NoSuchElementException: no such KEYS". */
    private static void partNeedsKeys() {
        Refusal refusal = new Refusal("4 keys", KeysEdgeTest::lay);
        for (int number : new int[] {-1, 4, 7, 8, 256, LEAST, MOST}) {
            refusal.of("part(" + number + ", false, 0)", NoSuchElementException.class,
                    keys -> keys.part(number, false, 0));
            refusal.of("part(" + number + ", true, -1)", NoSuchElementException.class,
                    keys -> keys.part(number, true, -1));
        }
        new Refusal("8 keys", KeysEdgeTest::eight)
                .of("part(8, false, 0)", NoSuchElementException.class, keys -> keys.part(8, false, 0))
                .butNot("part(7, true, 2399)", true, keys -> keys.part(7, true, 2399) >= 0)
                .butNot("part(0, true, 1631)", true, keys -> keys.part(0, true, 1631) >= 0);
    }

    /** 8: "or part"; and it comes before "no such byte". */
    private static void partNeedsAPart() {
        new Refusal("4 keys", KeysEdgeTest::lay)
                .of("part(2, true, 0)", NoSuchElementException.class, keys -> keys.part(2, true, 0))
                .of("part(3, true, 0)", NoSuchElementException.class, keys -> keys.part(3, true, 0))
                .of("part(3, true, -1)", NoSuchElementException.class, keys -> keys.part(3, true, -1))
                .of("part(2, true, 5000)", NoSuchElementException.class, keys -> keys.part(2, true, 5000))
                .butNot("part(2, false, 0)", true, keys -> keys.part(2, false, 0) >= 0)
                .butNot("part(3, false, 0)", true, keys -> keys.part(3, false, 0) >= 0);
    }

    /** 8: "Byte i of a part of KEYS"; "IndexOutOfBoundsException: no such byte." */
    private static void partNeedsAByte() {
        for (int set = 0; set < 6; set++) {
            for (boolean secret : new boolean[] {false, true}) {
                int number = set;
                int length = Sizes.part(set, secret);
                Refusal refusal = new Refusal("set " + set + (secret ? ", secret" : ", public"),
                        desk -> desk.quickKeys(number));
                for (int i : new int[] {-1, length, length + 1, LEAST, MOST}) {
                    refusal.of("part of byte " + i, IndexOutOfBoundsException.class, keys -> keys.part(0, secret, i));
                }
                Desk desk = new Desk();
                desk.quickKeys(set);
                desk.next().show(0, secret);
                int above = 0;
                for (int i : new int[] {0, 1, 31, 32, 33, 34, 35, length - 3, length - 2, length - 1}) {
                    int due = desk.next().result(i);
                    above = Math.max(above, due);
                    Check.same("set " + set + ", byte " + i, desk.next().part(0, secret, i), due);
                }
                Check.same("set " + set + ": a byte above 127 is among them", above > 127, true);
            }
        }
    }

    /** 9: "NoSuchElementException: no such KEYS, or part." */
    private static void showNeedsKeysAndPart() {
        Refusal refusal = new Refusal("4 keys", KeysEdgeTest::lay);
        for (int number : new int[] {-1, 4, 7, 8, 256, LEAST, MOST}) {
            refusal.of("show(" + number + ", false)", NoSuchElementException.class, keys -> keys.show(number, false));
            refusal.of("show(" + number + ", true)", NoSuchElementException.class, keys -> keys.show(number, true));
        }
        refusal.of("show(2, true)", NoSuchElementException.class, keys -> keys.show(2, true))
                .of("show(3, true)", NoSuchElementException.class, keys -> keys.show(3, true))
                .butNot("show(0, true)", 2400, keys -> keys.show(0, true))
                .butNot("show(2, false)", 1184, keys -> keys.show(2, false))
                .butNot("show(3, false)", 2592, keys -> keys.show(3, false));
        new Refusal("8 keys", KeysEdgeTest::eight)
                .of("show(8, true)", NoSuchElementException.class, keys -> keys.show(8, true))
                .butNot("show(7, true)", 2400, keys -> keys.show(7, true))
                .butNot("show(0, false)", 800, keys -> keys.show(0, false));
    }

    /** 9: "The RESULT is a part of KEYS: its length." The tape is not taken. */
    private static void showGivesTheShortestAndTheLongest() {
        Desk desk = new Desk();
        desk.quickKeys(0);
        desk.quickKeys(5);
        desk.fill(Sizes.TAPE);
        Check.same("the longest part", desk.next().show(1, true), 4896);
        Check.same("lengths with it", desk.lengths(), "16384 2 4896");
        Check.same("its last byte", desk.next().result(4895), desk.next().part(1, true, 4895));
        Check.same("the shortest part", desk.next().show(0, false), 800);
        Check.same("lengths with it", desk.lengths(), "16384 2 800");
        Check.refused("nothing of the longer one is left", IndexOutOfBoundsException.class,
                () -> desk.next().result(800));
        Check.same("the tape's last byte", desk.tapeByte(Sizes.TAPE - 1), new Desk().fill(8192).tapeByte(8191));
    }

    /** 10: "NoSuchElementException: no such KEYS"; and it comes before "another what". */
    private static void toldNeedsKeys() {
        Refusal refusal = new Refusal("4 keys", KeysEdgeTest::lay);
        for (int number : new int[] {-1, 4, 7, 8, 256, LEAST, MOST}) {
            for (int what : new int[] {-1, 0, 1, 2, 3}) {
                refusal.of("told(" + number + ", " + what + ")", NoSuchElementException.class,
                        keys -> keys.told(number, what));
            }
        }
        refusal.butNot("told(0, 0)", 1, keys -> keys.told(0, 0)).butNot("told(3, 0)", 5, keys -> keys.told(3, 0));
    }

    /** 10: "IllegalArgumentException: another what." */
    private static void toldKnowsThreeNumbers() {
        Refusal refusal = new Refusal("4 keys", KeysEdgeTest::lay);
        for (int what : new int[] {-1, 3, 4, 256, LEAST, MOST}) {
            for (int number : new int[] {0, 3}) {
                refusal.of("told(" + number + ", " + what + ")", IllegalArgumentException.class,
                        keys -> keys.told(number, what));
            }
        }
        refusal.butNot("told(1, 0)", 5, keys -> keys.told(1, 0)).butNot("told(1, 2)", 4896, keys -> keys.told(1, 2));
    }

    /** 10: "2 the secret part's, 0 without." */
    private static void toldOfKeysWithoutASecretPart() {
        for (int set = 0; set < 6; set++) {
            Desk desk = new Desk();
            desk.quickKeys(set);
            desk.loadPublic(0);
            Check.same("set " + set + ": the secret part's length", desk.next().told(0, 2), Sizes.SECRET[set]);
            Check.same("set " + set + ": without", desk.next().told(1, 2), 0);
            Check.same("set " + set + ": the public part's", desk.next().told(1, 1), Sizes.PUBLIC[set]);
            Check.same("set " + set + ": the set", desk.next().told(1, 0), set);
        }
    }
}
