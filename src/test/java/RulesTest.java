import java.io.IOException;
import java.nio.file.Files;
import java.nio.file.Path;
import java.util.List;

/** Those rules of LANGUAGE.md that can be seen from single lines of the class; run at the project's root. */
public final class RulesTest {
    private static final String[] RULED_OUT = {"->", "::", "try", "catch", "finally", "package ", "synchronized", "assert",
        "instanceof", "Exact(", "System.", "Object", "var ", "getMessage", "@", "abstract ", "NaN", "Thread"};

    public static void main(String[] args) throws IOException {
        List<String> lines = Files.readAllLines(Path.of("src/main/java/TubHire.java"));
        int start = 0;
        for (int i = 0; i < lines.size(); i++) {
            String line = lines.get(i);
            boolean isComment = line.strip().startsWith("//") || line.strip().startsWith("*")
                    || line.strip().startsWith("/*");
            for (String word : RULED_OUT) {
                Checks.due("whether line " + (i + 1) + " holds " + word, !isComment && line.contains(word), false);
            }
            if (line.startsWith("import")) {
                Checks.due("the import", line, "import java.util.NoSuchElementException;");
            }
            Checks.due("the signs of line " + (i + 1) + " outside 32 to 126",
                    line.chars().filter(sign -> sign < 32 || sign > 126).count(), 0L);
            if (line.isEmpty()) {
                Checks.due("whether the lines before line " + (i + 1) + " are at most 60", i - start <= 60, true);
                start = i;
            }
        }
        Checks.end();
    }
}
