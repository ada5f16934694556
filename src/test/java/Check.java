import java.nio.charset.StandardCharsets;
import java.security.MessageDigest;
import java.security.NoSuchAlgorithmException;

/** What the tests say to: counts wrong answers, and ends with exit code 1 if there was one. */
final class Check {
    /** A call that is to be refused. */
    interface Call {
        Object run();
    }

    private static int checks = 0;
    private static int wrong = 0;

    private Check() {
    }

    static void same(String what, Object got, Object want) {
        checks++;
        if (!want.equals(got)) {
            wrong++;
            System.out.println(what + ": answered " + got + ", due is " + want);
        }
    }

    static void refused(String what, Class<? extends RuntimeException> kind, Call call) {
        checks++;
        Object got;
        try {
            got = call.run();
        } catch (RuntimeException thrown) {
            if (thrown.getClass() == kind) {
                return;
            }
            got = thrown;
        }
        wrong++;
        System.out.println(what + ": answered " + got + ", due is " + kind.getSimpleName());
    }

    static void finish() {
        System.out.println(checks + " checks, " + wrong + " wrong");
        if (wrong != 0 || checks == 0) {
            System.exit(1);
        }
    }

    static byte[] sha3(byte[] bytes) {
        return digest("SHA3-256", bytes);
    }

    static byte[] digest(String name, byte[] bytes) {
        try {
            return MessageDigest.getInstance(name).digest(bytes);
        } catch (NoSuchAlgorithmException missing) {
            throw new AssertionError(missing);
        }
    }

    static String hex(byte[] bytes) {
        StringBuilder text = new StringBuilder();
        for (byte b : bytes) {
            text.append(Character.forDigit(b >> 4 & 15, 16)).append(Character.forDigit(b & 15, 16));
        }
        return text.toString();
    }

    /** Bytes that depend on the label alone: the JDK's SHA3-256 of the label, a blank and 0, 1, 2 and so on. */
    static byte[] stream(String label, int length) {
        byte[] bytes = new byte[length];
        for (int at = 0; at < length; at += 32) {
            byte[] block = sha3((label + " " + at / 32).getBytes(StandardCharsets.ISO_8859_1));
            System.arraycopy(block, 0, bytes, at, Math.min(32, length - at));
        }
        return bytes;
    }

    static byte[] join(byte[]... parts) {
        int length = 0;
        for (byte[] part : parts) {
            length += part.length;
        }
        byte[] all = new byte[length];
        int at = 0;
        for (byte[] part : parts) {
            System.arraycopy(part, 0, all, at, part.length);
            at += part.length;
        }
        return all;
    }
}
