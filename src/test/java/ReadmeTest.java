import java.io.IOException;
import java.lang.reflect.Method;
import java.lang.reflect.Modifier;
import java.net.URL;
import java.net.URLClassLoader;
import java.nio.file.Files;
import java.nio.file.Path;
import java.util.ArrayList;
import java.util.List;
import java.util.Set;
import java.util.TreeSet;
import java.util.function.BiConsumer;
import java.util.regex.Matcher;
import java.util.regex.Pattern;
import java.util.stream.Stream;
import javax.tools.JavaCompiler;
import javax.tools.ToolProvider;

/**
 * The example of README.md, taken from there and compiled as it stands, answers and throws what it says.
 * README.md is looked for in the folder that the test is started in.
 */
public final class ReadmeTest {
    private static final String CLASS = "ReadmeExample";
    private static final String FIRST_ROW = "NetJoins x = new NetJoins();";
    /** A call, its answer kept or not, and what is said of it; words behind a colon are for the reader. */
    private static final Pattern ROW =
            Pattern.compile("(?:int (\\w+) = )?(x\\.(\\w+)\\(.*\\));\\s+// (answers|throws) ([\\w-]+)(?:: .*)?");

    private final Check check = new Check();
    private final List<String> rows = new ArrayList<>();
    private final Set<String> called = new TreeSet<>();
    private final StringBuilder body = new StringBuilder();

    public static void main(String[] args) throws Exception {
        new ReadmeTest().run();
    }

    private void run() throws Exception {
        check.about("README.md");
        readRows();
        for (int i = 0; i < rows.size(); i++) {
            writeRow(i);
        }
        check.holds(called.equals(face()), "the example calls " + called + ", the face has " + face());
        if (check.faults() == 0) {
            compareAnswers();
        }
        check.end();
    }

    private void readRows() throws IOException {
        boolean inside = false;
        int blocks = 0;
        for (String line : Files.readAllLines(Path.of("README.md"))) {
            if (line.equals("```java")) {
                inside = true;
                blocks++;
            } else if (line.equals("```")) {
                inside = false;
            } else if (inside && !line.isEmpty() && !line.startsWith("//")) {
                rows.add(line);
            }
        }
        check.due(1, blocks, "how many blocks of Java there are");
        check.holds(!rows.isEmpty() && rows.get(0).equals(FIRST_ROW), "the example does not begin with a new object");
    }

    /** Every row says what is due: one that does not fit is a fault, so that none goes untested. */
    private void writeRow(int i) {
        if (i == 0) {
            body.append(FIRST_ROW).append('\n');
            return;
        }
        Matcher row = ROW.matcher(rows.get(i));
        if (!row.matches()) {
            check.fault("this row does not say what is due: " + rows.get(i));
            return;
        }
        called.add(row.group(3));
        String kept = row.group(1);
        if (kept == null) {
            body.append("try { ").append(answer(i, row.group(2)))
                    .append(" } catch (RuntimeException e) { ").append(answer(i, "e")).append(" }\n");
        } else {
            // What is kept is used further down, so it can't stand inside a try.
            body.append("int ").append(kept).append(" = ").append(row.group(2)).append(";\n")
                    .append(answer(i, kept)).append('\n');
        }
    }

    private static String answer(int row, String what) {
        return "answers.accept(" + row + ", " + what + ");";
    }

    private static Set<String> face() {
        Set<String> names = new TreeSet<>();
        for (Method m : NetJoins.class.getDeclaredMethods()) {
            if (Modifier.isPublic(m.getModifiers())) {
                names.add(m.getName());
            }
        }
        return names;
    }

    private void compareAnswers() throws Exception {
        List<Object> got = new ArrayList<>();
        List<Integer> at = new ArrayList<>();
        BiConsumer<Integer, Object> keep = (row, answer) -> {
            at.add(row);
            got.add(answer);
        };
        Path folder = Files.createTempDirectory("readme");
        try {
            if (compileIn(folder)) {
                callIn(folder, keep);
            }
        } finally {
            remove(folder);
        }
        check.due(rows.size() - 1, got.size(), "how many rows answered");
        for (int i = 0; i < got.size(); i++) {
            compareAnswer(rows.get(at.get(i)), got.get(i));
        }
    }

    private void compareAnswer(String text, Object got) {
        Matcher row = ROW.matcher(text);
        check.holds(row.matches(), "no row of answers: " + text);
        boolean thrown = got instanceof RuntimeException;
        String answer = thrown ? "throws " + got.getClass().getSimpleName() : "answers " + got;
        String due = row.group(4) + " " + row.group(5);
        check.holds(answer.equals(due), row.group(2) + " " + answer + ", README.md says: " + due);
    }

    private boolean compileIn(Path folder) throws IOException {
        Path source = folder.resolve(CLASS + ".java");
        Files.writeString(source, "public final class " + CLASS + " {\n"
                + "public static void run(java.util.function.BiConsumer<Integer, Object> answers) {\n"
                + body + "}\n}\n");
        JavaCompiler compiler = ToolProvider.getSystemJavaCompiler();
        boolean done = compiler != null && compiler.run(null, null, null, "-d", folder.toString(),
                "-classpath", System.getProperty("java.class.path"), source.toString()) == 0;
        check.holds(done, "the example does not compile");
        return done;
    }

    private static void callIn(Path folder, BiConsumer<Integer, Object> keep) throws Exception {
        try (URLClassLoader loader = new URLClassLoader(new URL[] {folder.toUri().toURL()})) {
            loader.loadClass(CLASS).getMethod("run", BiConsumer.class).invoke(null, keep);
        }
    }

    private static void remove(Path folder) throws IOException {
        try (Stream<Path> files = Files.list(folder)) {
            for (Path file : files.toList()) {
                Files.delete(file);
            }
        }
        Files.delete(folder);
    }
}
