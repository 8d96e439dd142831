import java.io.IOException;
import java.nio.file.Files;
import java.nio.file.Path;
import java.util.ArrayList;
import java.util.List;

/**
 * Tests that bear the words of the document that they are about. The words have to stand there, and each sentence
 * of the sections that are gone through has to be in the words of a test or of those that name no boundary.
 */
final class Sentences {
    // A sentence, a part of one that a semicolon ends, or a row of a list.
    private static final String ENDS = "(?<=[.;])\\s+|\\n";

    private final String document;
    private String section = "";
    private int from = 0;
    private int to = 0;
    private final List<int[]> named = new ArrayList<>();
    private int passed = 0;
    private int failed = 0;

    Sentences(Path file) throws IOException {
        document = Files.readString(file);
    }

    /** The tests that follow are about the section with this heading. */
    void section(String heading) {
        everySentenceIsNamed();
        section = heading;
        int at = document.indexOf("# " + heading + "\n");
        if (at < 0) {
            fail("there is no section \"" + heading + "\"");
        }
        from = at < 0 ? 0 : document.indexOf('\n', at) + 1;
        int next = document.indexOf("\n#", from);
        to = next < 0 ? document.length() : next;
        named.clear();
    }

    /** A test of a sentence, or of a part of one; it passes if it asks something and all is as due. */
    void test(String words, Runnable test) {
        name(words);
        int asked = Check.asked();
        int wrong = Check.wrong();
        String fault = "";
        try {
            test.run();
        } catch (RuntimeException | Error e) {
            fault = " (" + e + ")";
        }
        if (fault.isEmpty() && Check.wrong() == wrong && Check.asked() > asked) {
            passed++;
            System.out.println("ok      " + section + ": " + words);
        } else {
            fail(section + ": " + words + fault);
        }
    }

    /** Words that name no boundary; what they tell is tested by the tests of the promises. */
    void noBoundary(String... words) {
        for (String some : words) {
            name(some);
        }
    }

    private void name(String words) {
        int at = document.indexOf(words, from);
        if (at < 0 || at + words.length() > to) {
            fail(section + ": these words do not stand there: " + words);
            return;
        }
        named.add(new int[] {at, at + words.length()});
    }

    private void everySentenceIsNamed() {
        int at = from;
        for (String sentence : document.substring(from, to).split(ENDS)) {
            int start = document.indexOf(sentence, at);
            at = start + sentence.length();
            if (!sentence.isBlank() && !isNamed(start, at)) {
                fail(section + ": no test names " + sentence);
            }
        }
    }

    private boolean isNamed(int start, int end) {
        for (int[] words : named) {
            if (words[0] < end && words[1] > start) {
                return true;
            }
        }
        return false;
    }

    private void fail(String what) {
        failed++;
        System.out.println("FAILED  " + what);
    }

    /** Tells how many tests there were; .ci/run reads this line. */
    void end() {
        everySentenceIsNamed();
        System.out.println(passed + " passed, " + failed + " failed");
        System.exit(failed == 0 && passed > 0 ? 0 : 1);
    }
}
