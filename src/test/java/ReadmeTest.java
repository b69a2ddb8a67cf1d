import java.lang.reflect.Method;
import java.lang.reflect.Modifier;
import java.nio.charset.StandardCharsets;
import java.nio.file.Files;
import java.nio.file.Path;
import java.util.ArrayList;
import java.util.List;
import java.util.Set;
import java.util.TreeSet;
import java.util.regex.Matcher;
import java.util.regex.Pattern;
import java.util.stream.Stream;
import javax.tools.JavaCompiler;
import javax.tools.ToolProvider;

/**
 * README.md is right: its blocks of Java are made into one class Shown, compiled and done in their order, each call
 * held against the answer told behind it; every call of the face is shown, and the table names the tests that are.
 */
public final class ReadmeTest {
    private static final Pattern CALL = Pattern.compile("(d\\.(\\w+)\\(.*\\));\\s+// (-?\\d+|true|false)(:.*)?");

    private final List<String> members = new ArrayList<>();
    private final List<String> statements = new ArrayList<>();
    private final Set<String> shown = new TreeSet<>();
    private int calls = 0;

    public static void main(String[] args) throws Exception {
        String page = Files.readString(Path.of("README.md"), StandardCharsets.UTF_8);
        ReadmeTest test = new ReadmeTest();
        test.read(page);
        test.run();
        test.showsTheFace();
        namesTheTests(page);
        Check.due("README.md tells how to run the tests", page.contains("\n    .ci/run\n"), true);
        Check.end("ReadmeTest");
    }

    /** A block with methods is copied as it is; in the others each call must tell its answer. */
    private void read(String page) {
        Matcher blocks = Pattern.compile("(?s)```java\n(.*?)```").matcher(page);
        while (blocks.find()) {
            String block = blocks.group(1);
            if (Pattern.compile("(?m)^static ").matcher(block).find()) {
                members.add(block);
                continue;
            }
            for (String line : block.split("\n")) {
                statements.add(line.startsWith("d.") ? checked(line) : line);
            }
        }
        Check.due("calls are shown", calls > 0, true);
    }

    private String checked(String line) {
        Matcher m = CALL.matcher(line);
        boolean told = m.matches();
        Check.due("an answer is told: " + line, told, true);
        if (!told) {
            return "";
        }
        calls++;
        shown.add(m.group(2));
        String what = line.replace("\\", "\\\\").replace("\"", "\\\"");
        return "Check.due(\"" + what + "\", " + m.group(1) + ", " + m.group(3) + ");";
    }

    /** Shown comes to the classes of this test, so that it may use Check as they do. */
    private void run() throws Exception {
        Path classes = Path.of(System.getProperty("java.class.path"));
        Path source = classes.resolve("Shown.java");
        Files.writeString(source, "final class Shown {\n" + String.join("\n", members) + "\nstatic void done() {\n"
                + String.join("\n", statements) + "\n}\n}\n", StandardCharsets.UTF_8);
        JavaCompiler javac = ToolProvider.getSystemJavaCompiler();
        Check.due("javac is there", javac != null, true);
        int failed = javac == null ? 1
                : javac.run(null, null, null, "-cp", classes.toString(), "-d", classes.toString(), source.toString());
        Check.due("what README.md shows can be compiled", failed, 0);
        if (failed == 0) {
            Method done = Class.forName("Shown").getDeclaredMethod("done");
            done.invoke(null);
        }
    }

    private void showsTheFace() {
        for (Method m : DoorList.class.getDeclaredMethods()) {
            if (Modifier.isPublic(m.getModifiers())) {
                Check.due(m.getName() + " is shown", shown.contains(m.getName()), true);
            }
        }
    }

    private static void namesTheTests(String page) throws Exception {
        Set<String> named = new TreeSet<>();
        Matcher rows = Pattern.compile("(?m)^\\| (\\w+Test) \\|").matcher(page);
        while (rows.find()) {
            Check.due(rows.group(1) + " is named once", named.add(rows.group(1)), true);
        }
        Set<String> there = new TreeSet<>();
        try (Stream<Path> files = Files.list(Path.of("src/test/java"))) {
            files.map(f -> f.getFileName().toString()).filter(f -> f.endsWith("Test.java"))
                    .forEach(f -> there.add(f.substring(0, f.length() - ".java".length())));
        }
        Check.due("the table names " + named + ", there are " + there, named.equals(there), true);
    }
}
