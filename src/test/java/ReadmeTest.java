import java.io.IOException;
import java.net.URL;
import java.net.URLClassLoader;
import java.nio.file.Files;
import java.nio.file.Path;
import java.util.ArrayList;
import java.util.List;
import java.util.regex.Matcher;
import java.util.regex.Pattern;

/** Compiles the Java of README.md and makes its calls: their answers must be those that stand behind them. */
public final class ReadmeTest {
    private static final Pattern CALL = Pattern.compile("(x\\.(\\w+)\\(.*\\)); +// (-?\\d+|true|false): .*");
    private static final int CALLS_LEAST = 30;

    private static int wrong = 0;
    private static int calls = 0;

    private ReadmeTest() {
    }

    private static void complain(String what) {
        wrong++;
        System.out.println("README.md: " + what);
    }

    /** Called by the example. */
    public static void due(String call, Object got, Object want) {
        calls++;
        if (!got.equals(want)) {
            complain(call + " is " + got + ", said is " + want);
        }
    }

    private static List<List<String>> javaBlocks(Path file) throws IOException {
        List<List<String>> blocks = new ArrayList<>();
        boolean inside = false;
        for (String line : Files.readAllLines(file)) {
            if (line.equals("```java")) {
                blocks.add(new ArrayList<>());
                inside = true;
            } else if (line.startsWith("```")) {
                inside = false;
            } else if (inside) {
                blocks.get(blocks.size() - 1).add(line);
            }
        }
        return blocks;
    }

    /** A call whose answer is told becomes a test of it; one without an answer is a fault of the page. */
    private static String asTest(String line) {
        Matcher call = CALL.matcher(line);
        if (call.matches()) {
            return "ReadmeTest.due(\"" + call.group(1) + "\", " + call.group(1) + ", " + call.group(3) + ");";
        }
        if (line.startsWith("x.")) {
            complain("no answer is told of " + line);
        }
        return line;
    }

    private static String source(List<List<String>> blocks) {
        StringBuilder s = new StringBuilder("public final class ReadmeExample {\n");
        s.append(String.join("\n", blocks.get(0)));
        s.append("\npublic static void run() {\n");
        for (String line : blocks.get(1)) {
            s.append(asTest(line)).append("\n");
        }
        return s.append("}\n}\n").toString();
    }

    private static void runExample(String source) throws Exception {
        Path dir = Files.createTempDirectory("readme");
        Path file = dir.resolve("ReadmeExample.java");
        Path compiled = dir.resolve("ReadmeExample.class");
        Files.writeString(file, source);
        Process javac = new ProcessBuilder("javac", "-cp", System.getProperty("java.class.path"), "-d", dir.toString(),
            file.toString()).inheritIO().start();
        if (javac.waitFor() != 0) {
            complain("the example can't be compiled");
        } else {
            try (URLClassLoader loader = new URLClassLoader(new URL[] {dir.toUri().toURL()})) {
                loader.loadClass("ReadmeExample").getMethod("run").invoke(null);
            }
        }
        Files.deleteIfExists(file);
        Files.deleteIfExists(compiled);
        Files.deleteIfExists(dir);
    }

    public static void main(String[] args) throws Exception {
        List<List<String>> blocks = javaBlocks(Path.of("README.md"));
        if (blocks.size() != 2) {
            complain("due are two blocks of Java: how a text is told, and the example");
        } else {
            runExample(source(blocks));
            if (calls < CALLS_LEAST) {
                complain("only " + calls + " calls of the example were made");
            }
        }
        System.out.println(wrong == 0 ? calls + " answers of README.md are the class's" : wrong + " faults of README.md");
        if (wrong != 0) {
            System.exit(1);
        }
    }
}
