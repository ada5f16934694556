/** Promises 1 to 5, 16 and 17: a new object, feed, end, again, alter, result and count. */
public final class TapeTest {
    private static final int ROOM = 16384;

    public static void main(String[] args) {
        aNewObjectIsEmpty();
        feedWritesTheHighestByteFirst();
        feedNeedsRoomForTwenty();
        endKeepsTheFirstBytes();
        againComesBehindTheTape();
        againNeedsRoom();
        alterTurnsBits();
        resultHasItsBytesAlone();
        countTellsThreeNumbers();
        Check.finish();
    }

    private static void aNewObjectIsEmpty() {
        Desk desk = new Desk();
        Check.same("a new object's lengths", desk.lengths(), "0 0 0");
        Check.refused("a new object's result", IndexOutOfBoundsException.class, () -> desk.next().result(0));
        Check.refused("a new object's tape", IndexOutOfBoundsException.class, () -> desk.next().alter(0, 0));
        Check.refused("a new object's keys", java.util.NoSuchElementException.class, () -> desk.next().told(0, 0));
        Check.same("again on a new object", desk.next().again(), 0);
    }

    private static void feedWritesTheHighestByteFirst() {
        Desk desk = new Desk();
        Check.same("feed", desk.next().feed(0x01020304, -1, Integer.MIN_VALUE, 0x7f80ff00, 0xfedcba98), 20);
        Check.same("bytes fed", desk.tapeHex(), "01020304ffffffff800000007f80ff00fedcba98");
        Check.same("feed more", desk.next().feed(1, 2, 3, 4, 5), 40);
        Check.same("the twentieth byte", desk.tapeByte(19), 0x98);
        Check.same("the last byte", desk.tapeByte(39), 5);
    }

    private static void feedNeedsRoomForTwenty() {
        Desk desk = new Desk().fill(ROOM - 19);
        Check.refused("feed with room for 19", IllegalStateException.class, () -> desk.next().feed(1, 2, 3, 4, 5));
        Check.same("lengths after it", desk.lengths(), (ROOM - 19) + " 0 8192");
        desk.next().end(ROOM - 20);
        Check.same("feed with room for 20", desk.next().feed(1, 2, 3, 4, 0xabcdef), ROOM);
        Check.same("the very last byte", desk.tapeByte(ROOM - 1), 0xef);
        Check.refused("feed on a full tape", IllegalStateException.class, () -> desk.next().feed(1, 2, 3, 4, 5));
        Check.same("lengths after that", desk.lengths(), ROOM + " 0 8192");
    }

    private static void endKeepsTheFirstBytes() {
        Desk desk = new Desk().tape(Check.stream("tape", 50));
        Check.refused("end(-1)", IllegalArgumentException.class, () -> desk.next().end(-1));
        Check.refused("end(51)", IllegalArgumentException.class, () -> desk.next().end(51));
        Check.refused("end of the least", IllegalArgumentException.class, () -> desk.next().end(Integer.MIN_VALUE));
        Check.refused("end of the most", IllegalArgumentException.class, () -> desk.next().end(Integer.MAX_VALUE));
        Check.same("the tape after that", desk.tapeHex(), Check.hex(Check.stream("tape", 50)));
        Check.same("end(50)", desk.next().end(50), 50);
        Check.same("end(7)", desk.next().end(7), 7);
        Check.same("the tape then", desk.tapeHex(), Check.hex(Check.stream("tape", 7)));
        Check.refused("end(8) when 7 are left", IllegalArgumentException.class, () -> desk.next().end(8));
        Check.same("end(0)", desk.next().end(0), 0);
        Check.same("end(0) of nothing", desk.next().end(0), 0);
    }

    private static void againComesBehindTheTape() {
        Desk desk = new Desk().tape(Check.stream("hashed", 10));
        desk.next().hash(0, 0);
        String digest = Check.hex(Check.sha3(Check.stream("hashed", 10)));
        desk.tape(Check.stream("before", 5));
        Check.same("again behind 5 bytes", desk.next().again(), 37);
        Check.same("again once more", desk.next().again(), 69);
        Check.same("the tape", desk.tapeHex(), Check.hex(Check.stream("before", 5)) + digest + digest);
        Check.same("the result stays", desk.resultHex(), digest);
        desk.next().alter(5, 255);
        Check.same("the result has its own bytes", desk.resultHex(), digest);
    }

    private static void againNeedsRoom() {
        Desk desk = new Desk().fill(8193);
        Check.refused("again without room", IllegalStateException.class, () -> desk.next().again());
        Check.same("lengths after it", desk.lengths(), "8193 0 8192");
        desk.next().end(8192);
        Check.same("again with just enough room", desk.next().again(), ROOM);
        Check.refused("again on a full tape", IllegalStateException.class, () -> desk.next().again());
        desk.next().hash(3, 0);
        desk.tape(Check.stream("before", 5));
        Check.same("an empty result adds nothing", desk.next().again(), 5);
    }

    private static void alterTurnsBits() {
        Desk desk = new Desk().tape(new byte[] {0, 0x55, (byte) 0xff});
        Check.same("alter(0, 1)", desk.next().alter(0, 1), 1);
        Check.same("alter(0, 0x81)", desk.next().alter(0, 0x81), 0x80);
        Check.same("alter(1, 0x1ff): low bits alone", desk.next().alter(1, 0x1ff), 0xaa);
        Check.same("alter(2, -256): no low bits", desk.next().alter(2, -256), 0xff);
        Check.same("alter(2, -1)", desk.next().alter(2, -1), 0);
        Check.refused("alter(3, 1)", IndexOutOfBoundsException.class, () -> desk.next().alter(3, 1));
        Check.refused("alter(-1, 1)", IndexOutOfBoundsException.class, () -> desk.next().alter(-1, 1));
        Check.refused("alter far", IndexOutOfBoundsException.class, () -> desk.next().alter(Integer.MAX_VALUE, 1));
        Check.same("the tape", desk.tapeHex(), "80aa00");
        desk.next().end(2);
        Check.refused("alter what end took away", IndexOutOfBoundsException.class, () -> desk.next().alter(2, 1));
    }

    private static void resultHasItsBytesAlone() {
        Desk desk = new Desk();
        desk.next().hash(1, 0);
        Check.same("bytes of the result", desk.resultHex(), Check.hex(Check.digest("SHA3-512", new byte[0])));
        Check.refused("result(64)", IndexOutOfBoundsException.class, () -> desk.next().result(64));
        Check.refused("result(-1)", IndexOutOfBoundsException.class, () -> desk.next().result(-1));
        Check.refused("result far", IndexOutOfBoundsException.class, () -> desk.next().result(Integer.MIN_VALUE));
        desk.next().hash(0, 0);
        Check.refused("a shorter result ends sooner", IndexOutOfBoundsException.class, () -> desk.next().result(32));
    }

    private static void countTellsThreeNumbers() {
        Desk desk = new Desk();
        desk.quickKeys(0);
        desk.quickKeys(3);
        desk.next().hash(2, 77);
        desk.tape(new byte[11]);
        Check.same("count(0)", desk.next().count(0), 11);
        Check.same("count(1)", desk.next().count(1), 2);
        Check.same("count(2)", desk.next().count(2), 77);
        for (int what : new int[] {-1, 3, 4, Integer.MIN_VALUE, Integer.MAX_VALUE}) {
            Check.same("count(" + what + ")", desk.next().count(what), -1);
        }
    }
}
