import java.io.IOException;
import java.nio.ByteBuffer;
import java.nio.charset.StandardCharsets;
import java.nio.file.Files;
import java.nio.file.Path;
import java.util.ArrayList;
import java.util.List;

/** The examples of README.md: they hold, and README.md shows them as they stand here. */
public final class ExampleTest {
    public static void main(String[] args) throws IOException {
        twoSidesAgreeOnASecret(Check.stream("example seed", 64), Check.stream("example message", 32));
        oneSignsAndTheOtherVerifies(Check.stream("example seed", 32), Check.stream("example chance", 32));
        theReadmeShowsTheseLines();
        Check.finish();
    }

    /** The bytes come behind what the tape has: 20 a call, and what is too much is cut off. */
    private static void append(LatticeKeys x, byte[] bytes) {
        int length = x.count(0) + bytes.length;
        ByteBuffer rest = ByteBuffer.allocate(bytes.length + 20).put(0, bytes);
        for (int at = 0; at < bytes.length; at += 20) {
            x.feed(rest.getInt(), rest.getInt(), rest.getInt(), rest.getInt(), rest.getInt());
        }
        x.end(length);
    }

    private static void twoSidesAgreeOnASecret(byte[] seed, byte[] message) {
        LatticeKeys x = new LatticeKeys();
        append(x, seed);                    // 64 bytes of chance
        int mine = x.keys(1);               // keys of ML-KEM-768
        append(x, message);                 // the other side: 32 bytes of chance
        int length = x.seal(mine);          // the result: a ciphertext, then the shared secret
        int theirs = x.result(length - 32); // the first byte of the secret on their side
        x.again();
        x.end(length - 32);                 // the ciphertext alone
        x.open(mine);                       // the result: the shared secret
        int ours = x.result(0);             // the first byte of the secret on our side
        Check.same("the secret", ours, theirs);
    }

    private static void oneSignsAndTheOtherVerifies(byte[] seed, byte[] chance) {
        byte[] context = "letters".getBytes(StandardCharsets.ISO_8859_1);
        byte[] message = "We meet at noon.".getBytes(StandardCharsets.ISO_8859_1);
        LatticeKeys x = new LatticeKeys();
        append(x, seed);                    // 32 bytes of chance
        int signer = x.keys(4);             // keys of ML-DSA-65
        append(x, chance);                  // 32 bytes of chance
        append(x, context);
        append(x, message);
        x.sign(signer, context.length);     // the result: the signature
        x.again();
        append(x, context);
        append(x, message);
        boolean good = x.verify(signer, context.length);
        Check.same("the signature", good, true);
    }

    /** Every line of code in README.md stands here, in the same order. */
    private static void theReadmeShowsTheseLines() throws IOException {
        List<String> here = Files.readAllLines(Path.of("src/test/java/ExampleTest.java"));
        int at = 0;
        for (String line : codeIn(Files.readAllLines(Path.of("README.md")))) {
            int found = at;
            while (found < here.size() && !here.get(found).strip().equals(line)) {
                found++;
            }
            Check.same("README.md shows what is here: " + line, found < here.size(), true);
            at = found < here.size() ? found + 1 : at;
        }
        Check.same("README.md shows code", at > 0, true);
    }

    private static List<String> codeIn(List<String> text) {
        List<String> code = new ArrayList<>();
        boolean inside = false;
        for (String line : text) {
            if (line.startsWith("```")) {
                inside = line.equals("```java");
            } else if (inside && !line.isBlank()) {
                code.add(line.strip());
            }
        }
        return code;
    }
}
