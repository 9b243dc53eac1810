import java.io.IOException;
import java.nio.file.Files;
import java.nio.file.Path;
import java.util.ArrayList;
import java.util.List;

/** README.md's example does what it says; run from the project's folder, as .ci/run does. */
public final class ReadmeTest {
    public static void main(String[] args) throws IOException {
        Check check = new Check();
        check.part("README.md");
        check.same("the example that is run here",
            linesBetween("src/test/java/ReadmeTest.java", "// The example begins.", "// The example ends."),
            linesBetween("README.md", "```java", "```"));
        check.same("units played", example(), 1);
        check.end();
    }

    private static int example() {
        // The example begins.
        TalkNet net = new TalkNet();
        net.member(0, 0, 3);
        net.member(0, 1, 3);
        net.press(0, 0, false);
        net.run(200);
        net.unit(0, 0, 77);
        net.run(200);
        net.tick();
        net.tick();
        int played = net.about(0, 1, 11);
        // The example ends.
        return played;
    }

    /** The lines between two others, without what stands around the code. */
    private static List<String> linesBetween(String file, String first, String last) throws IOException {
        List<String> found = new ArrayList<>();
        boolean inside = false;
        for (String line : Files.readAllLines(Path.of(file))) {
            String text = line.strip();
            if (inside && text.equals(last)) {
                return found;
            }
            if (inside) {
                found.add(text.replaceAll("\\s*//.*", ""));
            }
            inside |= text.equals(first);
        }
        return found;
    }
}
