import java.io.IOException;
import java.nio.file.Files;
import java.nio.file.Path;

/** README tells the use of the class by calls and their answers, which must be the true ones; run at the root. */
public final class ReadmeTest {
    private static int lines = 0;

    public static void main(String[] args) throws IOException {
        String readme = Files.readString(Path.of("README.md"));
        String example = readme.substring(readme.indexOf("```java"), readme.indexOf("- A call with"));
        TubHire hire = new TubHire();
        says(example, "TubHire hire = new TubHire();", "");
        says(example, "int tub = hire.tub(1);", "          // " + hire.tub(1) + ", ");
        says(example, "int tent = hire.tent(3);", "        // " + hire.tent(3) + ", ");
        says(example, "int heater = hire.heater();", "     // " + hire.heater() + ", ");
        says(example, "hire.out(tub, tent);", "            // " + hire.out(0, 0) + " coins, ");
        says(example, "hire.heat(heater, tent);", "        // " + hire.heat(0, 0) + ", ");
        says(example, "int guest = hire.join(tent);", "    // " + hire.join(0) + ", ");
        says(example, "hire.bathesIn(guest);", "           // " + hire.bathesIn(0) + " hours ");
        says(example, "hire.pass(5);", "                   // " + hire.pass(5) + " guest bathes ");
        String line = Checks.line(hire, 0);
        says(example, "hire.line(tent);", "                // " + line.length() + " characters: \"" + line + "\"\n");
        says(example, "hire.character(5);", "              // '" + hire.character(5) + "', ");
        says(example, "hire.undo();", "                    // " + hire.undo() + " changes ");
        Checks.due("the hour after the example", hire.number(0), 0);
        Checks.due("the lines of the example", example.lines().filter(text -> text.contains("hire")).count(), (long) lines);
        readsItsText(readme, hire);
        Checks.end();
    }

    private static void says(String example, String call, String answer) {
        lines++;
        Checks.due("whether README says " + call + answer, example.contains("\n" + call + answer), true);
    }

    /** The text of README follows its example. */
    private static void readsItsText(String readme, TubHire hire) {
        String text = "back 0;out 0 0;hours 5";
        Checks.due("whether README says " + text, readme.contains("`" + text + "`"), true);
        Checks.feed(hire, text);
        Checks.due("read()", hire.read(), 3);
        Checks.due("the hour after it", hire.number(0), 5);
        Checks.due("the guests who bathed", hire.number(11), 1);
    }
}
