/** Promises 2 to 5, 16 and 17: feed, end, again, alter, result and count. Their boundaries are in TapeEdgeTest. */
public final class TapeTest {
    public static void main(String[] args) {
        feedWritesTheHighestByteFirst();
        endKeepsTheFirstBytes();
        againComesBehindTheTape();
        alterTurnsBits();
        resultGivesBytes();
        countTellsThreeNumbers();
        Check.finish();
    }

    private static void feedWritesTheHighestByteFirst() {
        Desk desk = new Desk();
        Check.same("feed", desk.next().feed(0x01020304, 0x05060708, 0x090a0b0c, 0x7f80ff00, 0xfedcba98), 20);
        Check.same("bytes fed", desk.tapeHex(), "0102030405060708090a0b0c7f80ff00fedcba98");
        Check.same("feed more", desk.next().feed(1, 2, 3, 4, 5), 40);
        Check.same("the twentieth byte", desk.tapeByte(19), 0x98);
        Check.same("the last byte", desk.tapeByte(39), 5);
    }

    private static void endKeepsTheFirstBytes() {
        Desk desk = new Desk().tape(Check.stream("tape", 50));
        Check.same("end(30)", desk.next().end(30), 30);
        Check.same("end(7)", desk.next().end(7), 7);
        Check.same("the tape then", desk.tapeHex(), Check.hex(Check.stream("tape", 7)));
    }

    private static void againComesBehindTheTape() {
        Desk desk = new Desk().tape(Check.stream("hashed", 10));
        desk.next().hash(0, 0);
        String digest = Check.hex(Check.sha3(Check.stream("hashed", 10)));
        desk.tape(Check.stream("before", 5));
        Check.same("again behind 5 bytes", desk.next().again(), 37);
        Check.same("again once more", desk.next().again(), 69);
        Check.same("the tape", desk.tapeHex(), Check.hex(Check.stream("before", 5)) + digest + digest);
        Check.same("the result stays", desk.resultHex(), digest);
    }

    private static void alterTurnsBits() {
        Desk desk = new Desk().tape(new byte[] {0, 0x55, (byte) 0xff});
        Check.same("alter(0, 1)", desk.next().alter(0, 1), 1);
        Check.same("alter(0, 0x81)", desk.next().alter(0, 0x81), 0x80);
        Check.same("alter(1, 0xff)", desk.next().alter(1, 0xff), 0xaa);
        Check.same("alter(2, 0x0f)", desk.next().alter(2, 0x0f), 0xf0);
        Check.same("the tape", desk.tapeHex(), "80aaf0");
    }

    private static void resultGivesBytes() {
        Desk desk = new Desk();
        desk.next().hash(1, 0);
        Check.same("bytes of the result", desk.resultHex(), Check.hex(Check.digest("SHA3-512", new byte[0])));
    }

    private static void countTellsThreeNumbers() {
        Desk desk = new Desk();
        desk.quickKeys(0);
        desk.quickKeys(3);
        desk.next().hash(2, 77);
        desk.tape(new byte[11]);
        Check.same("count(0)", desk.next().count(0), 11);
        Check.same("count(1)", desk.next().count(1), 2);
        Check.same("count(2)", desk.next().count(2), 77);
    }
}
