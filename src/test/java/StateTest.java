import java.util.ArrayList;
import java.util.List;
import java.util.NoSuchElementException;
import java.util.Random;

/**
 * All promises at once: long runs of calls with right and wrong arguments against a plain account of what each call
 * throws, answers by length, and leaves behind.
 */
public final class StateTest {
    private static final int ROOM = Sizes.TAPE;
    private static final int[] WILD = {-1, 1, 3, 255, 256, 8191, 8192, 8193, ROOM, ROOM + 1,
        Integer.MIN_VALUE, Integer.MAX_VALUE};
    private static final Object ANY = new Object();

    private final Random random;
    private final Desk desk = new Desk();
    private final List<int[]> pairs = new ArrayList<>();
    private int tape = 0;
    private int result = 0;

    private StateTest(int seed) {
        random = new Random(seed);
    }

    public static void main(String[] args) {
        for (int seed = 0; seed < 400; seed++) {
            StateTest run = new StateTest(seed);
            // Three calls look at the lengths after each one.
            for (int i = 0; i < 120; i++) {
                run.step("run " + seed + " step " + i + ": ");
            }
        }
        Check.finish();
    }

    private void step(String what) {
        switch (random.nextInt(16)) {
            case 0 -> judge(what + "feed", tape + 20 > ROOM ? IllegalStateException.class : tape + 20,
                    () -> desk.next().feed(1, 2, 3, 4, random.nextInt()), () -> tape += 20);
            case 1 -> again(what);
            case 2, 3 -> end(what);
            case 4 -> alter(what);
            case 5, 6 -> keys(what);
            case 7 -> load(what);
            case 8 -> part(what);
            case 9 -> show(what);
            case 10 -> told(what);
            case 11 -> seal(what);
            case 12 -> open(what);
            case 13 -> sign(what);
            case 14 -> verify(what);
            default -> hash(what);
        }
        Check.same(what + "lengths", desk.lengths(), tape + " " + pairs.size() + " " + result);
    }

    /** The call is to throw a class, or to answer a value; what it leaves is done when it has not thrown. */
    private void judge(String what, Object due, Check.Call call, Runnable left) {
        Object got;
        try {
            got = call.run();
        } catch (RuntimeException thrown) {
            got = thrown.getClass();
        }
        if (due != ANY || got instanceof Class<?>) {
            Check.same(what, got, due);
        }
        if (!(got instanceof Class<?>)) {
            left.run();
        }
    }

    private void again(String what) {
        judge(what + "again", tape + result > ROOM ? IllegalStateException.class : tape + result,
                () -> desk.next().again(), () -> tape += result);
    }

    private void end(String what) {
        int[] good = {0, 32, 64, 32, 64, 40, 300, 768, 800, 1088, 1568, 2420, 2425, 3309, 3314, 4627, 4700};
        int n = random.nextInt(5) == 0 ? wild() : good[random.nextInt(good.length)];
        judge(what + "end(" + n + ")", n < 0 || n > tape ? IllegalArgumentException.class : n,
                () -> desk.next().end(n), () -> tape = n);
    }

    private void alter(String what) {
        int i = random.nextInt(3) == 0 ? wild() : random.nextInt(tape + 1);
        judge(what + "alter(" + i + ")", i < 0 || i >= tape ? IndexOutOfBoundsException.class : ANY,
                () -> desk.next().alter(i, random.nextInt()), () -> { });
    }

    private void keys(String what) {
        int set = random.nextInt(8) - 1;
        Object due = pairs.size();
        if (set < 0 || set > 5 || tape != (set < 3 ? 64 : 32)) {
            due = IllegalArgumentException.class;
        } else if (pairs.size() == 8) {
            due = IllegalStateException.class;
        }
        judge(what + "keys(" + set + ")", due, () -> desk.next().keys(set), () -> {
            tape = 0;
            pairs.add(new int[] {set, 1});
        });
    }

    /** The tape is a part that is there, whole or not. */
    private void load(String what) {
        int from = number();
        boolean secret = random.nextBoolean();
        if (!has(from, secret)) {
            return;
        }
        desk.next().end(0);
        result = desk.next().show(from, secret);
        tape = desk.next().again();
        int set = random.nextInt(6) == 0 ? random.nextInt(8) - 1 : set(from);
        boolean flag = random.nextInt(6) == 0 ? !secret : secret;
        boolean broken = random.nextInt(4) == 0;
        if (broken) {
            int place = secret ? Sizes.SECRET[set(from)] - 33 : 1;
            desk.next().alter(place, 255 ^ desk.tapeByte(place));
        }
        Object due = pairs.size();
        if (set < 0 || set > 5 || flag && set > 2 || tape != Sizes.part(set, flag)) {
            due = IllegalArgumentException.class;
        } else if (broken && set < 3) {
            due = UnsupportedOperationException.class;
        } else if (pairs.size() == 8) {
            due = IllegalStateException.class;
        }
        judge(what + "load(" + set + ", " + flag + ")", due, () -> desk.next().load(set, flag), () -> {
            tape = 0;
            pairs.add(new int[] {set, flag ? 1 : 0});
        });
    }

    private void part(String what) {
        int number = number();
        boolean secret = random.nextBoolean();
        int i = random.nextInt(3) == 0 ? wild() : random.nextInt(5000);
        Object due = NoSuchElementException.class;
        if (has(number, secret)) {
            int length = Sizes.part(set(number), secret);
            due = i < 0 || i >= length ? IndexOutOfBoundsException.class : ANY;
        }
        judge(what + "part(" + number + ", " + secret + ", " + i + ")", due,
                () -> desk.next().part(number, secret, i), () -> { });
    }

    private void show(String what) {
        int number = number();
        boolean secret = random.nextBoolean();
        Object due = has(number, secret)
                ? (Object) Sizes.part(set(number), secret) : NoSuchElementException.class;
        judge(what + "show(" + number + ", " + secret + ")", due, () -> desk.next().show(number, secret),
                () -> result = (Integer) due);
    }

    private void told(String what) {
        int number = number();
        int which = random.nextInt(5) - 1;
        Object due = NoSuchElementException.class;
        if (has(number, false)) {
            int[] answers = {set(number), Sizes.PUBLIC[set(number)],
                has(number, true) ? Sizes.SECRET[set(number)] : 0};
            due = which < 0 || which > 2 ? (Object) IllegalArgumentException.class : answers[which];
        }
        judge(what + "told(" + number + ", " + which + ")", due, () -> desk.next().told(number, which), () -> { });
    }

    private void seal(String what) {
        int number = number();
        Object due = NoSuchElementException.class;
        if (has(number, false) && set(number) < 3) {
            due = tape != 32 ? (Object) IllegalArgumentException.class : Sizes.CIPHER[set(number)] + 32;
        }
        judge(what + "seal(" + number + ")", due, () -> desk.next().seal(number), () -> {
            tape = 0;
            result = Sizes.CIPHER[set(number)] + 32;
        });
    }

    private void open(String what) {
        int number = number();
        Object due = NoSuchElementException.class;
        if (has(number, true) && set(number) < 3) {
            due = tape != Sizes.CIPHER[set(number)] ? (Object) IllegalArgumentException.class : 32;
        }
        judge(what + "open(" + number + ")", due, () -> desk.next().open(number), () -> {
            tape = 0;
            result = 32;
        });
    }

    private void sign(String what) {
        int number = number();
        int n = contextLength();
        Object due = NoSuchElementException.class;
        if (has(number, true) && set(number) > 2) {
            due = n < 0 || n > 255 || tape < 32 + n ? IllegalArgumentException.class : ANY;
        }
        judge(what + "sign(" + number + ", " + n + ")", due, () -> desk.next().sign(number, n), () -> {
            tape = 0;
            result = Sizes.SIGNATURE[set(number)];
        });
    }

    private void verify(String what) {
        int number = number();
        int n = contextLength();
        Object due = NoSuchElementException.class;
        if (has(number, false) && set(number) > 2) {
            due = n < 0 || n > 255 || tape < Sizes.SIGNATURE[set(number)] + n ? IllegalArgumentException.class : ANY;
        }
        judge(what + "verify(" + number + ", " + n + ")", due, () -> desk.next().verify(number, n), () -> tape = 0);
    }

    private void hash(String what) {
        int kind = random.nextInt(6) - 1;
        int n = random.nextInt(3) == 0 ? wild() : new int[] {0, 32, 64, 800, 6000, 8192}[random.nextInt(6)];
        Object due = kind == 0 ? 32 : kind == 1 ? 64 : n;
        if (kind < 0 || kind > 3 || n < 0 || n > 8192) {
            due = IllegalArgumentException.class;
        }
        Object length = due;
        judge(what + "hash(" + kind + ", " + n + ")", due, () -> desk.next().hash(kind, n), () -> {
            tape = 0;
            result = (Integer) length;
        });
    }

    private int wild() {
        return WILD[random.nextInt(WILD.length)];
    }

    private int contextLength() {
        return random.nextInt(4) == 0 ? wild() : random.nextInt(6);
    }

    private int number() {
        return random.nextInt(6) == 0 ? wild() : random.nextInt(pairs.size() + 1);
    }

    private int set(int number) {
        return pairs.get(number)[0];
    }

    private boolean has(int number, boolean secret) {
        return number >= 0 && number < pairs.size() && (!secret || pairs.get(number)[1] == 1);
    }
}
