import java.io.IOException;
import java.nio.file.Files;
import java.nio.file.Path;
import java.util.ArrayList;
import java.util.List;
import java.util.regex.Matcher;
import java.util.regex.Pattern;

/**
 * The document, in parts, and what of it has a test of its own: part 0 is all that stands ahead of the promises, and
 * part n is promise n.
 */
final class Sentences {
    private static final int PARTS = 38;

    // The words by which the document names its boundary cases.
    private static final Pattern BOUNDS = Pattern.compile("Throws [^.]*?(?=\n)|from \\d+ to \\d+|at most \\d+|at first"
            + "|numbered from 0|counted from 0|not below \\d+|more than \\d+|fewer than \\d+|\\d+ degrees or more"
            + "|within \\d+ hours|or all that there are|at 0 litres|no litres|multiple of 4|divided by 8|too early"
            + "|-1 in the store|-1 without one|0 in the store|0 without water|0 otherwise|0 if it has now|is lost"
            + "|one or two digits|each blank is one|The latest 8|stays forgotten|empty|whatever happens|first of these"
            + "|documented first|unchanged|none\\.|if there are some|if it has one|if somebody does|in place of"
            + "|which is kept|Nothing can be undone");

    private final String[] parts;
    private final boolean[][] tested = new boolean[PARTS][];

    Sentences(Path document) throws IOException {
        parts = Files.readString(document).replace("`", "").split("## Promise \\d+: ");
        Checks.due("the parts of the document", parts.length, PARTS);
        for (int part = 0; part < parts.length && part < PARTS; part++) {
            parts[part] = parts[part].replaceAll("(?s)## Not promised.*", "");
            tested[part] = new boolean[parts[part].length()];
        }
    }

    /** Tests a sentence, or a part of one, which must stand in the document as it is given here. */
    void holds(int part, String sentence, Checks.Call test) {
        int start = parts[part].replace('\n', ' ').indexOf(sentence);
        String name = (part == 0 ? "Terms" : "promise " + part) + ", \"" + sentence + "\"";
        Checks.due("whether the document says " + name, start >= 0, true);
        for (int i = 0; start >= 0 && i < sentence.length(); i++) {
            tested[part][start + i] = true;
        }
        Checks.named(name, test);
    }

    /** Each boundary case that the document names must stand in a sentence that was tested. */
    void dueAll() {
        List<String> untested = new ArrayList<>();
        for (int part = 0; part < PARTS; part++) {
            Matcher bound = BOUNDS.matcher(parts[part]);
            while (bound.find()) {
                for (int i = bound.start(); i < bound.end(); i++) {
                    if (!tested[part][i] && parts[part].charAt(i) != ' ') {
                        untested.add(part + ": " + bound.group());
                        break;
                    }
                }
            }
        }
        Checks.due("the boundary cases without a test", untested, List.of());
    }
}
