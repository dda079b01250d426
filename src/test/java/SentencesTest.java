import java.io.IOException;
import java.nio.file.Path;

/** Each sentence of the document that names a boundary case has a test of its own; run at the project's root. */
public final class SentencesTest {
    public static void main(String[] args) throws IOException {
        Sentences document = new Sentences(Path.of("../shared/DOC.md"));
        ThingsSentences.test(document);
        WaterSentences.test(document);
        RefusalSentences.test(document);
        GrammarSentences.test(document);
        StateSentences.test(document);
        TubSentences.test(document);
        TentSentences.test(document);
        HourSentences.test(document);
        AccountSentences.test(document);
        TextSentences.test(document);
        UndoSentences.test(document);
        document.dueAll();
        Checks.end();
    }
}
