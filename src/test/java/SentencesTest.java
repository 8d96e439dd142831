import java.io.IOException;
import java.nio.file.Path;

/** Each sentence of the document that names a boundary has a test of its own here. It runs in the project's folder. */
public final class SentencesTest {
    public static void main(String[] args) throws IOException {
        Sentences s = new Sentences(Path.of("../shared/DOC.md"));
        TreeSentences.tests(s);
        FramesSentences.tests(s);
        GatheringSentences.tests(s);
        ReleasingSentences.tests(s);
        TickSentences.tests(s);
        TextsSentences.tests(s);
        ChangesSentences.tests(s);
        TreePromises.tests(s);
        FramePromises.tests(s);
        TextPromises.tests(s);
        s.end();
    }
}
