import java.io.IOException;
import java.lang.reflect.Method;
import java.lang.reflect.Modifier;
import java.net.URL;
import java.net.URLClassLoader;
import java.nio.file.Files;
import java.nio.file.Path;
import java.util.ArrayList;
import java.util.List;
import java.util.TreeSet;
import java.util.regex.Matcher;
import java.util.regex.Pattern;
import javax.tools.ToolProvider;

/**
 * The example of README.md, compiled and run as it stands there: each call has to answer what is told behind it, and
 * the example shows each call of the face. It runs in the project's folder.
 */
public final class ReadmeTest {
    private static final Pattern BLOCK = Pattern.compile("(?ms)^```java\\n(.*?)^```$");
    private static final Pattern ANSWERED =
            Pattern.compile("(?:int (\\w+) = )?(tree\\.\\w+\\(.*\\)); +// (-?\\d+|[A-Z_]+): .+");

    public static void main(String[] args) throws Exception {
        Watchdog.watch();
        String example = exampleOf(Files.readString(Path.of("README.md")));
        run(programOf(example));
        everyCallIsShown(example);
        Check.end();
    }

    private static String exampleOf(String readme) {
        StringBuilder example = new StringBuilder();
        Matcher block = BLOCK.matcher(readme);
        while (block.find()) {
            example.append(block.group(1));
        }
        return example.toString();
    }

    /** The example as a class, with a check behind each line that tells an answer. */
    private static String programOf(String example) {
        StringBuilder program = new StringBuilder("public final class ReadmeExample {\npublic static void run() {\n");
        for (String line : example.split("\n")) {
            Matcher answered = ANSWERED.matcher(line);
            if (answered.matches()) {
                program.append(checked(answered));
            } else {
                Check.holds("an answer is told behind " + line, !line.startsWith("tree.") && !line.startsWith("int "));
                program.append(line).append('\n');
            }
        }
        return program.append("}\n}\n").toString();
    }

    private static String checked(Matcher line) {
        String told = line.group(3);
        String due = Character.isUpperCase(told.charAt(0)) ? "PhasorTree." + told : told;
        String call = line.group(2);
        String check = "ReadmeTest.answers(\"" + call + "\", ";
        if (line.group(1) == null) {
            return check + call + ", " + due + ");\n";
        }
        return "int " + line.group(1) + " = " + call + ";\n" + check + line.group(1) + ", " + due + ");\n";
    }

    /** What the example calls; it is public, as the example is loaded by a loader of its own. */
    public static void answers(String call, int got, int due) {
        Check.due(call + " of README.md", got, due);
    }

    private static void run(String program) throws IOException, ReflectiveOperationException {
        Path folder = Files.createTempDirectory("readme");
        Path source = folder.resolve("ReadmeExample.java");
        Path compiled = folder.resolve("ReadmeExample.class");
        Files.writeString(source, program);
        int status = ToolProvider.getSystemJavaCompiler().run(null, null, null, "-proc:none", "-implicit:none",
                "-cp", System.getProperty("java.class.path"), "-d", folder.toString(), source.toString());
        Check.due("javac of the example of README.md", status, 0);
        if (status == 0) {
            try (URLClassLoader loader = new URLClassLoader(new URL[] {folder.toUri().toURL()})) {
                loader.loadClass("ReadmeExample").getMethod("run").invoke(null);
            }
        }
        Files.deleteIfExists(compiled);
        Files.delete(source);
        Files.delete(folder);
    }

    private static void everyCallIsShown(String example) {
        List<String> shown = new ArrayList<>();
        Matcher call = Pattern.compile("(?m)^(?:int \\w+ = )?tree\\.(\\w+)\\(").matcher(example);
        while (call.find()) {
            shown.add(call.group(1));
        }
        TreeSet<String> face = new TreeSet<>();
        for (Method method : PhasorTree.class.getDeclaredMethods()) {
            if (Modifier.isPublic(method.getModifiers())) {
                face.add(method.getName());
            }
        }
        Check.due("calls of the face", face.size(), 21);
        for (String name : face) {
            Check.holds("README.md shows " + name, shown.contains(name));
        }
        for (String error : new String[] {"INVALID_ARGUMENT", "NOT_POSSIBLE", "LIMIT_REACHED", "NOT_FOUND"}) {
            Check.holds("README.md shows " + error, example.contains("// " + error + ":"));
        }
    }
}
