import java.io.IOException;
import java.nio.file.Files;
import java.nio.file.Path;
import java.util.List;
import java.util.regex.Matcher;
import java.util.regex.Pattern;

/** The rules of LANGUAGE.md that can be seen in the text of the program. It runs in the project's folder. */
public final class LanguageTest {
    private static final String[] RULED_OUT = {"\\b(try|catch|throw|throws|finally|synchronized|assert|native"
            + "|volatile|transient|strictfp|import static|package)\\b", "->", "::", "\\bnew \\w+(<\\w*>)?\\([^)]*\\) *\\{",
        "\\bthis *\\)", "\\bSystem\\.(?!arraycopy)", "\\w+Exact\\b", "\\b(HashMap|Map|Set|Random|Thread|Scanner|Math\\."
            + "random|String\\.format|hashCode|toString|Object)\\b", "\"[^\"\\n]*\" *\\+", "\\+ *\"", "\\bwhile *\\(true\\)",
        "for *\\(;;"};

    public static void main(String[] args) throws IOException {
        Path file = Path.of("src/main/java/PhasorTree.java");
        String text = Files.readString(file);
        for (int i = 0; i < text.length(); i++) {
            char sign = text.charAt(i);
            if (sign != '\n' && (sign < 32 || sign > 126)) {
                Check.due("a sign at " + i, sign, ' ');
            }
        }
        for (String rule : RULED_OUT) {
            Matcher matcher = Pattern.compile(rule).matcher(text);
            Check.holds("there is no " + rule, !matcher.find());
        }
        Matcher imports = Pattern.compile("import ([^;]+);").matcher(text);
        while (imports.find()) {
            Check.holds(imports.group(1), List.of("java.util.Arrays", "java.util.ArrayList", "java.util.List",
                    "java.util.Iterator").contains(imports.group(1)));
        }
        methodsAreShort(text.split("\n"));
        Check.end();
    }

    private static void methodsAreShort(String[] lines) {
        Pattern head = Pattern.compile("( {4}| {8})(public|private)( static)?( [\\w\\[\\]]+)? \\w+\\([^;]*");
        int methods = 0;
        for (int i = 0; i < lines.length; i++) {
            Matcher matcher = head.matcher(lines[i]);
            if (matcher.matches()) {
                int end = i;
                while (!lines[end].equals(matcher.group(1) + "}")) {
                    end++;
                }
                Check.holds("line " + (i + 1) + " begins a short method", end - i < 60);
                methods++;
            }
        }
        Check.holds("methods were found", methods > 60);
    }
}
