import java.io.IOException;
import java.nio.file.Files;
import java.nio.file.Path;
import java.util.List;
import java.util.regex.Matcher;
import java.util.regex.Pattern;

/** The rules of LANGUAGE.md that can be seen in the text of the program. It runs in the project's folder. */
public final class LanguageTest {
    // "Some sixty lines": with some to spare.
    private static final int MOST_LINES = 72;

    private static final String[] RULED_OUT = {"\\b(try|catch|throw|throws|finally|synchronized|assert|native"
            + "|volatile|transient|strictfp|import static|package)\\b", "\\) *->", "\\b[a-z]\\w* *->(?<!default ->)", "::",
        "\\bnew \\w+(<\\w*>)?\\([^)]*\\) *\\{", "\\bthis *\\)", "\\bSystem\\.(?!arraycopy)", "\\w+Exact\\b",
        "\\b(HashMap|TreeMap|Map|HashSet|Set|Random|Thread|Scanner|Math\\.random|String\\.format|hashCode)\\b",
        "\"\" *\\+", "\\+ *\"\"", "\\bwhile *\\(true\\)", "for *\\( *;;"};

    public static void main(String[] args) throws IOException {
        String text = Files.readString(Path.of("src/main/java/PhasorTree.java"));
        signs(text);
        String code = text.replaceAll("(?s)/\\*.*?\\*/", "").replaceAll("//[^\n]*", "").replaceAll("\"[^\"\n]*\"", "\"\"");
        for (String rule : RULED_OUT) {
            Matcher matcher = Pattern.compile(rule).matcher(code);
            Check.holds("there is no " + rule, !matcher.find());
        }
        Matcher imports = Pattern.compile("import ([^;]+);").matcher(code);
        while (imports.find()) {
            Check.holds(imports.group(1), List.of("java.util.Arrays", "java.util.ArrayList", "java.util.List",
                    "java.util.Iterator").contains(imports.group(1)));
        }
        methodsAreShort(text.split("\n"));
        Check.end();
    }

    private static void signs(String text) {
        int odd = 0;
        for (int i = 0; i < text.length(); i++) {
            char sign = text.charAt(i);
            odd += sign != '\n' && (sign < 32 || sign > 126) ? 1 : 0;
        }
        Check.due("signs that are none of 32 to 126", odd, 0);
    }

    private static void methodsAreShort(String[] lines) {
        Pattern head = Pattern.compile("( {4}| {8})(public|private)( static)?( [\\w\\[\\]]+)? \\w+\\([^;]*\\{");
        for (int i = 0; i < lines.length; i++) {
            Matcher matcher = head.matcher(lines[i]);
            if (matcher.matches()) {
                int end = i;
                while (end < lines.length && !lines[end].equals(matcher.group(1) + "}")) {
                    end++;
                }
                Check.holds("line " + (i + 1) + " begins a short method", end - i < MOST_LINES);
            }
        }
    }
}
