/** Calls that are to be refused in one place: what they throw, and that tape, result and keys are then as they were. */
final class Refusal {
    /** Brings a new object to the place. */
    interface Scene {
        void lay(Desk desk);
    }

    /** One call. */
    interface Act {
        Object on(LatticeKeys keys);
    }

    private final String place;
    private final Scene scene;
    private final String tape;
    private final String result;
    private final String keys;

    Refusal(String place, Scene scene) {
        this.place = place;
        this.scene = scene;
        tape = laid().tapeAccount();
        result = laid().resultAccount();
        keys = laid().keysAccount();
    }

    /** Looking at one of the three spoils the others, so that the call is made on an object for each. */
    Refusal of(String call, Class<? extends RuntimeException> kind, Act act) {
        String what = place + ", " + call;
        Check.same(what + ": the tape", after(what, kind, act).tapeAccount(), tape);
        Check.same(what + ": the result", after(what, kind, act).resultAccount(), result);
        Check.same(what + ": the keys", after(what, kind, act).keysAccount(), keys);
        return this;
    }

    /** The last that is allowed, beside what is refused. */
    Refusal butNot(String call, Object due, Act act) {
        Object got;
        try {
            got = act.on(laid().next());
        } catch (RuntimeException thrown) {
            got = thrown;
        }
        Check.same(place + ", " + call, got, due);
        return this;
    }

    private Desk laid() {
        Desk desk = new Desk();
        scene.lay(desk);
        return desk;
    }

    private Desk after(String what, Class<? extends RuntimeException> kind, Act act) {
        Desk desk = laid();
        Check.refused(what, kind, () -> act.on(desk.next()));
        return desk;
    }
}
