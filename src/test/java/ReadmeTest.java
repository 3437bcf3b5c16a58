import java.io.IOException;
import java.lang.reflect.Method;
import java.net.URL;
import java.net.URLClassLoader;
import java.nio.file.Files;
import java.nio.file.Path;
import java.util.ArrayList;
import java.util.List;
import java.util.regex.Matcher;
import java.util.regex.Pattern;
import javax.tools.ToolProvider;

/**
 * The calls that README.md shows answer as it says. Its Java blocks are made into one program; a
 * line with a comment is a call, or the declaration of a variable, and its answer stands in the
 * comment before the first comma.
 */
public final class ReadmeTest {
    private static final Path README = Path.of("README.md");
    private static final Pattern SHOWN = Pattern.compile("(.*);\\s*// ([^,]*)(, .*)?");
    private static final Pattern DECLARATION = Pattern.compile("\\w+ (\\w+) = .*");

    private ReadmeTest() {
    }

    public static void main(String[] args) throws Exception {
        Check check = new Check();
        List<String> lines = javaLines();
        everyCallIsShown(check, lines);
        callsAnswerAsShown(check, lines);
        check.end();
    }

    private static List<String> javaLines() throws IOException {
        List<String> lines = new ArrayList<>();
        boolean inside = false;
        for (String line : Files.readAllLines(README)) {
            if (line.startsWith("```")) {
                inside = line.equals("```java");
            } else if (inside) {
                lines.add(line);
            }
        }
        return lines;
    }

    private static void everyCallIsShown(Check check, List<String> lines) {
        String text = String.join("\n", lines);
        for (Method method : FactLedger.class.getMethods()) {
            if (method.getDeclaringClass() == FactLedger.class) {
                check.due("README.md shows " + method.getName(),
                        () -> text.contains("ledger." + method.getName() + "("), true);
            }
        }
    }

    private static void callsAnswerAsShown(Check check, List<String> lines) throws Exception {
        StringBuilder body = new StringBuilder();
        List<String> calls = new ArrayList<>();
        List<String> due = new ArrayList<>();
        for (String line : lines) {
            Matcher shown = SHOWN.matcher(line);
            boolean isShown = shown.matches();
            // A call without an answer beside it would be run, but not compared.
            check.due("README.md says what is answered: " + line,
                    () -> isShown || !line.startsWith("ledger."), true);
            body.append(isShown ? asked(shown.group(1)) : line).append('\n');
            if (isShown) {
                calls.add(shown.group(1));
                due.add(shown.group(2).replaceAll("^['\"]|['\"]$", ""));
            }
        }
        List<?> answers = answersOf(body.toString(), String.join("\n", lines));
        check.due("README.md's answers", answers::size, due.size());
        for (int i = 0; i < due.size() && i < answers.size(); i++) {
            check.same("README.md: " + calls.get(i), String.valueOf(answers.get(i)), due.get(i));
        }
    }

    /** Writes the statements that keep the answer of a call, or of a declaration's call. */
    private static String asked(String call) {
        Matcher declaration = DECLARATION.matcher(call);
        if (declaration.matches()) {
            return call + "; answers.add(String.valueOf(" + declaration.group(1) + "));";
        }
        return "try { answers.add(String.valueOf(" + call + ")); } catch (RuntimeException e) {"
                + " answers.add(\"throws \" + e.getClass().getSimpleName()); }";
    }

    /** Runs the statements. The lines as they are written are compiled beside them, no more. */
    private static List<?> answersOf(String body, String asWritten) throws Exception {
        Path folder = Files.createTempDirectory("readme");
        Path source = folder.resolve("Shown.java");
        Path program = folder.resolve("Shown.class");
        try {
            Files.writeString(source, "public final class Shown {\n"
                    + "public static java.util.List<String> answers() {\n"
                    + "java.util.List<String> answers = new java.util.ArrayList<>();\n"
                    + body + "return answers;\n}\n"
                    + "static void asWritten() {\n" + asWritten + "\n}\n}\n");
            int status = ToolProvider.getSystemJavaCompiler().run(null, null, null, "-cp",
                    System.getProperty("java.class.path"), "-d", folder.toString(),
                    source.toString());
            if (status != 0) {
                throw new IllegalStateException("what README.md shows does not compile");
            }
            try (URLClassLoader loader = new URLClassLoader(new URL[] {folder.toUri().toURL()})) {
                return (List<?>) loader.loadClass("Shown").getMethod("answers").invoke(null);
            }
        } finally {
            Files.deleteIfExists(program);
            Files.deleteIfExists(source);
            Files.deleteIfExists(folder);
        }
    }
}
