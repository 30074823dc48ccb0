import java.lang.reflect.Method;
import java.lang.reflect.Modifier;
import java.net.URL;
import java.net.URLClassLoader;
import java.nio.charset.StandardCharsets;
import java.nio.file.Files;
import java.nio.file.Path;
import java.util.Comparator;
import java.util.TreeSet;
import java.util.regex.Matcher;
import java.util.regex.Pattern;
import java.util.stream.Stream;

/** The examples of README.md are compiled from the page and answer what stands behind them; each call has one. */
public final class ReadmeTest {
    private static final Pattern BLOCK = Pattern.compile("(?ms)^```java\n(.*?)^```$");
    private static final Pattern ANSWERED =
            Pattern.compile("((?:x\\.\\w+|read)\\(.*\\)); +// (-?\\d+|true|false)(?:: .*)?");
    private static final Pattern CALL = Pattern.compile("^x\\.(\\w+)\\(");
    private static final int FEWEST = 100;
    private static final Due due = new Due();

    /** The class that is compiled calls these. */
    public static void held(String call, long got, long want) {
        due.is(call, got, want);
    }

    public static void held(String call, boolean got, boolean want) {
        due.is(call, got ? 1 : 0, want ? 1 : 0);
    }

    public static void main(String[] args) throws Exception {
        due.promise("README.md");
        String page = new String(Files.readAllBytes(Path.of("README.md")), StandardCharsets.UTF_8);
        TreeSet<String> shown = new TreeSet<>();
        StringBuilder source = new StringBuilder("public final class Examples {\n");
        int blocks = 0;
        int answers = 0;
        Matcher block = BLOCK.matcher(page);
        while (block.find()) {
            String body = block.group(1);
            if (body.startsWith("static ")) {
                source.append(body);
                continue;
            }
            source.append("public static void example").append(blocks++).append("() {\n");
            for (String line : body.split("\n")) {
                Matcher answered = ANSWERED.matcher(line);
                if (answered.matches()) {
                    answers++;
                    source.append(check(answered.group(1), answered.group(2)));
                    Matcher call = CALL.matcher(line);
                    if (call.find()) {
                        shown.add(call.group(1));
                    }
                } else {
                    due.no("an example without an answer: " + line, line.contains("//") || line.startsWith("x."));
                    source.append(line).append('\n');
                }
            }
            source.append("}\n");
        }
        due.yes("many examples: " + answers, answers >= FEWEST);
        run(source.append("}\n").toString(), blocks);
        everyCall(page, shown);
        due.finish("ReadmeTest");
    }

    private static String check(String call, String want) {
        String told = call.replace("\\", "\\\\").replace("\"", "\\\"");
        return "ReadmeTest.held(\"" + told + "\", " + call + ", " + want + ");\n";
    }

    private static void run(String source, int blocks) throws Exception {
        Path dir = Files.createTempDirectory("readme");
        try {
            Path file = dir.resolve("Examples.java");
            Files.write(file, source.getBytes(StandardCharsets.UTF_8));
            String path = System.getProperty("java.class.path");
            int code = new ProcessBuilder("javac", "-cp", path, "-d", dir.toString(), file.toString())
                    .inheritIO().start().waitFor();
            due.is("compiling the examples", code, 0);
            if (code != 0) {
                return;
            }
            try (URLClassLoader loader = new URLClassLoader(new URL[] {dir.toUri().toURL()})) {
                Class<?> examples = loader.loadClass("Examples");
                for (int i = 0; i < blocks; i++) {
                    due.promise("README.md, example " + (i + 1));
                    examples.getMethod("example" + i).invoke(null);
                }
            }
        } finally {
            try (Stream<Path> files = Files.walk(dir)) {
                files.sorted(Comparator.reverseOrder()).forEach(p -> p.toFile().delete());
            }
        }
    }

    private static void everyCall(String page, TreeSet<String> shown) {
        due.promise("README.md");
        for (Method m : MachinesDream.class.getDeclaredMethods()) {
            if (Modifier.isPublic(m.getModifiers())) {
                due.yes(m.getName() + " has an example", shown.contains(m.getName()));
                due.yes(m.getName() + " stands in a table",
                        Pattern.compile("(?m)^\\|.*`" + m.getName() + "\\(").matcher(page).find());
            }
        }
    }
}
