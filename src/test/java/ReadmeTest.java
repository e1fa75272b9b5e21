import java.io.IOException;
import java.lang.reflect.InvocationTargetException;
import java.net.URL;
import java.net.URLClassLoader;
import java.nio.file.Files;
import java.nio.file.Path;
import java.util.ArrayList;
import java.util.Comparator;
import java.util.List;
import java.util.regex.Matcher;
import java.util.regex.Pattern;
import java.util.stream.Stream;
import javax.tools.JavaCompiler;
import javax.tools.ToolProvider;

/**
 * The calls that README.md shows answer what it says: its Java blocks are compiled as one program, and each line
 * "x.call(..);  // number: .." is compared with its number.
 */
public final class ReadmeTest {
    private static final Pattern BLOCK = Pattern.compile("(?ms)^```java\\n(.*?)^```$");
    private static final Pattern SHOWN = Pattern.compile("(x\\.\\w+\\([^;]*\\));\\s*// (-?\\d+): .+");
    private static final Pattern CALL = Pattern.compile("x\\.(\\w+)\\(");
    private static final int MOST_CALLS = 512;

    private final List<String> shown = new ArrayList<>();
    private final List<Long> due = new ArrayList<>();
    private final StringBuilder program = new StringBuilder();

    public static void main(String[] args) throws Exception {
        ReadmeTest test = new ReadmeTest();
        test.take(Files.readString(Path.of(args.length > 0 ? args[0] : "README.md")));
        test.compare(answers(test.program.toString()));
        Checks.end("ReadmeTest");
    }

    private void take(String page) {
        StringBuilder names = new StringBuilder();
        program.append("public final class Shown {\npublic static void run(java.util.List<Long> answers) {\n");
        for (Matcher block = BLOCK.matcher(page); block.find();) {
            for (String line : block.group(1).split("\n")) {
                program.append(recorded(line)).append('\n');
            }
            CALL.matcher(block.group(1)).results().forEach(call -> names.append(call.group(1)).append(' '));
        }
        program.append("}\n}\n");
        for (String name : Calls.names()) {
            Checks.holds("README.md shows " + name, List.of(names.toString().split(" ")).contains(name));
        }
    }

    /** A line whose answer is told keeps it; each other line of calls must be one that tells none, as in a loop. */
    private String recorded(String line) {
        Matcher call = SHOWN.matcher(line);
        if (!call.matches()) {
            Checks.holds("'" + line + "' tells its answer", line.startsWith(" ") || !CALL.matcher(line).find());
            return line;
        }
        shown.add(line);
        due.add(Long.parseLong(call.group(2)));
        return "answers.add((long) " + call.group(1) + ");";
    }

    private void compare(List<Long> answers) {
        Checks.equal("so many answers", answers.size(), due.size());
        Checks.holds("one object's calls are " + MOST_CALLS + " at most", answers.size() < MOST_CALLS / 2);
        for (int i = 0; i < Math.min(due.size(), answers.size()); i++) {
            Checks.equal("README.md: " + shown.get(i), answers.get(i), due.get(i));
        }
    }

    private static List<Long> answers(String program) throws IOException, ReflectiveOperationException {
        Path folder = Files.createTempDirectory("readme");
        try {
            Path file = folder.resolve("Shown.java");
            Files.writeString(file, program);
            JavaCompiler compiler = ToolProvider.getSystemJavaCompiler();
            int failed = compiler.run(null, System.out, System.out, "-proc:none", "-cp",
                    System.getProperty("java.class.path"), "-d", folder.toString(), file.toString());
            Checks.equal("what README.md shows compiles", failed, 0);
            return failed == 0 ? run(folder) : List.of();
        } finally {
            remove(folder);
        }
    }

    private static List<Long> run(Path folder) throws IOException, ReflectiveOperationException {
        List<Long> answers = new ArrayList<>();
        try (URLClassLoader loader = new URLClassLoader(new URL[] {folder.toUri().toURL()})) {
            loader.loadClass("Shown").getMethod("run", List.class).invoke(null, answers);
        } catch (InvocationTargetException e) {
            throw new IllegalStateException("what README.md shows throws", e);
        }
        return answers;
    }

    private static void remove(Path folder) throws IOException {
        List<Path> all;
        try (Stream<Path> walk = Files.walk(folder)) {
            all = walk.sorted(Comparator.reverseOrder()).toList();
        }
        for (Path one : all) {
            Files.delete(one);
        }
    }
}
