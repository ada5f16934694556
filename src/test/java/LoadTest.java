import java.util.NoSuchElementException;

/** Promise 7: load. Its boundaries are in LoadEdgeTest. */
public final class LoadTest {
    public static void main(String[] args) {
        for (int set = 0; set < 6; set++) {
            partsAreLoaded(set, false);
        }
        for (int set = 0; set < 3; set++) {
            partsAreLoaded(set, true);
            aWildSecretPartIsKept(set);
        }
        Check.finish();
    }

    private static void partsAreLoaded(int set, boolean secret) {
        Desk desk = new Desk();
        desk.quickKeys(set);
        desk.next().show(0, secret);
        desk.next().again();
        String what = "load(" + set + ", " + secret + "): ";
        Check.same(what + "number", desk.next().load(set, secret), 1);
        Check.same(what + "lengths", desk.lengths(), "0 2 " + Sizes.part(set, secret));
        Check.same(what + "set told", desk.next().told(1, 0), set);
        Check.same(what + "public length told", desk.next().told(1, 1), Sizes.PUBLIC[set]);
        Check.same(what + "secret length told", desk.next().told(1, 2), secret ? Sizes.SECRET[set] : 0);
        Check.same(what + "public part", desk.partDigest(1, false), desk.partDigest(0, false));
        if (secret) {
            Check.same(what + "secret part", desk.partDigest(1, true), desk.partDigest(0, true));
        } else {
            Check.refused(what + "no secret part", NoSuchElementException.class, () -> desk.next().show(1, true));
        }
    }

    private static void aWildSecretPartIsKept(int set) {
        byte[] wild = Check.stream("wild public " + set, Sizes.PUBLIC[set]);
        byte[] whole = Check.join(Check.stream("wild secret " + set, Sizes.numbers(set)), wild, Check.sha3(wild),
                Check.stream("wild refusal " + set, 32));
        Desk desk = new Desk().tape(whole);
        Check.same("set " + set + ": a wild secret part", desk.next().load(set, true), 0);
        Check.same("its public part", desk.partDigest(0, false), Check.hex(Check.sha3(wild)));
        Check.same("its secret part", desk.partDigest(0, true), Check.hex(Check.sha3(whole)));
    }
}
