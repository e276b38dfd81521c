import java.io.IOException;
import java.net.URL;
import java.net.URLClassLoader;
import java.nio.file.Files;
import java.nio.file.Path;
import java.util.ArrayList;
import java.util.List;
import java.util.concurrent.Callable;
import java.util.regex.Matcher;
import java.util.regex.Pattern;
import javax.tools.ToolProvider;

/** The example in README.md compiles, and each of its calls answers what stands behind it. */
public final class ReadmeTest {
    private static final Path README = Path.of("README.md");
    private static final Path PLACE = Path.of("build", "ReadmeTest", "example");
    private static final String NAME = "ReadmeExample";
    private static final Pattern ANSWERED =
            Pattern.compile("(?:(int) (\\w+) = )?(.+);\\s*// (throws \\w+|[^\\s:]+).*");

    private static final Check check = new Check();

    private final List<String> calls = new ArrayList<>();
    private final List<String> due = new ArrayList<>();
    private final StringBuilder source = new StringBuilder();

    public static void main(String[] args) throws Exception {
        new ReadmeTest().run();
        check.end();
    }

    private void run() throws Exception {
        source.append("public final class ").append(NAME)
                .append(" implements java.util.concurrent.Callable<java.util.List<String>> {\n")
                .append("public java.util.List<String> call() {\n")
                .append("java.util.List<String> got = new java.util.ArrayList<>();\n");
        for (String line : exampleLines()) {
            add(line.strip());
        }
        source.append("return got;\n}\n}\n");
        List<String> got = answers();
        check.same("number of answers", due.size(), got.size());
        check.isTrue("the example has answers", due.size() >= 10);
        for (int call = 0; call < due.size() && call < got.size(); call++) {
            check.same("README, " + calls.get(call), due.get(call), got.get(call));
        }
    }

    /** The lines of all Java blocks, which together are one example. */
    private static List<String> exampleLines() throws IOException {
        List<String> lines = new ArrayList<>();
        boolean isExample = false;
        for (String line : Files.readAllLines(README)) {
            if (line.startsWith("```")) {
                isExample = line.equals("```java");
            } else if (isExample) {
                lines.add(line);
            }
        }
        return lines;
    }

    private void add(String line) {
        Matcher answered = ANSWERED.matcher(line);
        if (!answered.matches()) {
            check.isTrue("'" + line + "' tells no answer", !line.contains("//"));
            check.isTrue("'" + line + "' needs no answer",
                    !line.startsWith("opera.") || line.startsWith("opera.append("));
            source.append(line).append('\n');
            return;
        }
        calls.add(answered.group(3));
        due.add(answered.group(4).replace("'", ""));
        if (answered.group(1) != null) {
            source.append(line).append('\n');
            source.append("got.add(String.valueOf(").append(answered.group(2)).append("));\n");
            return;
        }
        source.append("try {\n")
                .append("got.add(String.valueOf(").append(answered.group(3)).append("));\n")
                .append("} catch (RuntimeException e) {\n")
                .append("got.add(\"throws \" + e.getClass().getSimpleName());\n}\n");
    }

    private List<String> answers() throws Exception {
        Files.createDirectories(PLACE);
        Path file = PLACE.resolve(NAME + ".java");
        Files.writeString(file, source);
        int fault = ToolProvider.getSystemJavaCompiler().run(null, null, null, "-d",
                PLACE.toString(), "-cp", System.getProperty("java.class.path"), file.toString());
        check.same("the example compiles, fault", 0, fault);
        URL[] places = {PLACE.toUri().toURL()};
        try (URLClassLoader loader = new URLClassLoader(places, ReadmeTest.class.getClassLoader())) {
            Object example = loader.loadClass(NAME).getDeclaredConstructor().newInstance();
            List<String> got = new ArrayList<>();
            for (Object answer : (List<?>) ((Callable<?>) example).call()) {
                got.add((String) answer);
            }
            return got;
        }
    }
}
