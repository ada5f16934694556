import com.sun.management.ThreadMXBean;
import java.lang.management.ManagementFactory;
import java.lang.reflect.Constructor;
import java.lang.reflect.Field;
import java.lang.reflect.Method;
import java.lang.reflect.Modifier;
import java.util.Arrays;
import java.util.HashSet;
import java.util.Set;
import java.util.TreeSet;

/** The public face, what the language's rules say of members, and the room that a run of calls takes. */
public final class FaceTest {
    private static final String[] FACE = {
        "int feed(int, int, int, int, int) throws IllegalStateException",
        "int end(int) throws IllegalArgumentException",
        "int again() throws IllegalStateException",
        "int alter(int, int) throws IndexOutOfBoundsException",
        "int keys(int) throws IllegalArgumentException, IllegalStateException",
        "int load(int, boolean) throws IllegalArgumentException, UnsupportedOperationException, IllegalStateException",
        "int part(int, boolean, int) throws NoSuchElementException, IndexOutOfBoundsException",
        "int show(int, boolean) throws NoSuchElementException",
        "int told(int, int) throws NoSuchElementException, IllegalArgumentException",
        "int seal(int) throws NoSuchElementException, IllegalArgumentException",
        "int open(int) throws NoSuchElementException, IllegalArgumentException",
        "int sign(int, int) throws NoSuchElementException, IllegalArgumentException, IllegalStateException",
        "boolean verify(int, int) throws NoSuchElementException, IllegalArgumentException",
        "int hash(int, int) throws IllegalArgumentException",
        "int result(int) throws IndexOutOfBoundsException",
        "int count(int)"};

    public static void main(String[] args) {
        theFaceIsTheDocuments();
        nothingElseIsVisible();
        classesInsideKeepToTheRules();
        objectsDoNotShareState();
        callsTakeLittleRoom();
        Check.finish();
    }

    private static void theFaceIsTheDocuments() {
        Set<String> got = new TreeSet<>();
        for (Method method : LatticeKeys.class.getDeclaredMethods()) {
            if (Modifier.isPublic(method.getModifiers())) {
                got.add(text(method));
            }
        }
        Check.same("public methods", got, new TreeSet<>(Arrays.asList(FACE)));
        Check.same("the class is final", Modifier.isFinal(LatticeKeys.class.getModifiers()), true);
        Constructor<?>[] made = LatticeKeys.class.getDeclaredConstructors();
        Check.same("constructors", made.length, 1);
        Check.same("the constructor is public", Modifier.isPublic(made[0].getModifiers()), true);
        Check.same("the constructor's parameters", made[0].getParameterCount(), 0);
    }

    private static String text(Method method) {
        StringBuilder text = new StringBuilder(method.getReturnType().getSimpleName());
        text.append(' ').append(method.getName()).append('(').append(names(method.getParameterTypes())).append(')');
        if (method.getExceptionTypes().length > 0) {
            text.append(" throws ").append(names(method.getExceptionTypes()));
        }
        return text.toString();
    }

    private static String names(Class<?>[] types) {
        StringBuilder text = new StringBuilder();
        for (Class<?> type : types) {
            text.append(text.length() == 0 ? "" : ", ").append(type.getSimpleName());
        }
        return text.toString();
    }

    private static void nothingElseIsVisible() {
        Set<String> names = new HashSet<>();
        for (Method method : LatticeKeys.class.getDeclaredMethods()) {
            int modifiers = method.getModifiers();
            Check.same(method + " is public or private",
                    Modifier.isPublic(modifiers) || Modifier.isPrivate(modifiers), true);
            if (Modifier.isPublic(modifiers)) {
                Check.same(method + " is the only public one of its name", names.add(method.getName()), true);
            }
        }
        for (Field field : LatticeKeys.class.getDeclaredFields()) {
            Check.same(field + " is private", Modifier.isPrivate(field.getModifiers()), true);
        }
        for (Method method : LatticeKeys.class.getDeclaredMethods()) {
            Check.same(method + " bears a name of its own",
                    Modifier.isPrivate(method.getModifiers()) && names.contains(method.getName()), false);
        }
    }

    private static void classesInsideKeepToTheRules() {
        Class<?>[] inside = LatticeKeys.class.getDeclaredClasses();
        Check.same("some twelve classes", inside.length <= 12, true);
        for (Class<?> type : inside) {
            int modifiers = type.getModifiers();
            Check.same(type + " is static", Modifier.isStatic(modifiers), true);
            Check.same(type + " is not public", Modifier.isPublic(modifiers) || Modifier.isProtected(modifiers), false);
            int fields = 0;
            for (Field field : type.getDeclaredFields()) {
                if (Modifier.isStatic(field.getModifiers())) {
                    Check.same(field + " is final", Modifier.isFinal(field.getModifiers()), true);
                } else {
                    fields++;
                }
            }
            Check.same(type + " has some twenty fields", fields <= 20, true);
            for (Method method : type.getDeclaredMethods()) {
                Check.same(method + " has at most seven parameters", method.getParameterCount() <= 7, true);
            }
        }
    }

    private static void objectsDoNotShareState() {
        Desk one = new Desk();
        Desk other = new Desk();
        one.quickKeys(3);
        other.quickKeys(0);
        one.tape(Check.stream("one", 40));
        other.tape(Check.stream("other", 32));
        other.next().seal(0);
        one.next().sign(0, 0);
        Check.same("the one", one.lengths() + " " + one.next().told(0, 0), "0 1 2420 3");
        Check.same("the other", other.lengths() + " " + other.next().told(0, 0), "0 1 800 0");
        other.next().again();
        other.next().end(768);
        other.next().open(0);
        one.next().again();
        one.write(Arrays.copyOfRange(Check.stream("one", 40), 32, 40));
        Check.same("the one's signature", one.next().verify(0, 0), true);
    }

    /** The dearest calls, as often as an object may be called; the room is 7.3 million elements for them all. */
    private static void callsTakeLittleRoom() {
        ThreadMXBean threads = (ThreadMXBean) ManagementFactory.getThreadMXBean();
        long before = threads.getThreadAllocatedBytes(Thread.currentThread().getId());
        LatticeKeys keys = new LatticeKeys();
        long made = threads.getThreadAllocatedBytes(Thread.currentThread().getId());
        int calls = 0;
        for (int i = 0; i < 4; i++) {
            keys.hash(3, 32);
            keys.again();
            keys.keys(5);
            keys.hash(3, 64);
            keys.again();
            keys.keys(2);
            calls += 6;
        }
        while (calls < 505) {
            keys.hash(3, 32);
            keys.again();
            keys.sign(0, 0);
            keys.again();
            keys.verify(0, 0);
            keys.hash(3, 1568);
            keys.again();
            keys.open(1);
            calls += 8;
        }
        long after = threads.getThreadAllocatedBytes(Thread.currentThread().getId());
        Check.same("an object takes " + (made - before) + " bytes, fewer than 300,000", made - before < 300000, true);
        // Eight keys of the largest sets are some 50,000 bytes.
        Check.same("its calls take " + (after - made) + " bytes, fewer than 100,000", after - made < 100000, true);
    }
}
