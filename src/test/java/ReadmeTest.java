import java.io.IOException;
import java.lang.reflect.Method;
import java.lang.reflect.Modifier;
import java.nio.file.Files;
import java.nio.file.Path;
import java.util.ArrayList;
import java.util.List;
import java.util.regex.Matcher;
import java.util.regex.Pattern;
import java.util.stream.Stream;
import javax.tools.ToolProvider;

/**
 * The code in README.md, made into a class and run: each call must answer what the words behind it say.
 * It is started in the project's folder, as .ci/run does.
 */
final class ReadmeTest {
    private static final Path README = Path.of("README.md");
    private static final Pattern CALL = Pattern.compile(
        "\\s*(?:int (?<name>\\w+) = )?(?<call>map\\.(?<method>\\w+)\\([^()]*\\));\\s*// (?<answer>[^:]+)(?:: .+)?");
    private static final Pattern BARE = Pattern.compile("ProofMap map = new ProofMap\\(\\);|for \\(.*\\) \\{|\\}|");

    private final List<String> methodsCalled = new ArrayList<>();
    private final StringBuilder made = new StringBuilder();

    private ReadmeTest() {
    }

    public static void main(String[] args) throws IOException, ReflectiveOperationException {
        List<String> lines = Files.readAllLines(README);
        ReadmeTest test = new ReadmeTest();
        test.makeRuns(lines);
        test.everyMethodIsCalled();
        test.run();
        constants(String.join("\n", lines));
        everyTestIsNamed(String.join("\n", lines));
        Check.end();
    }

    private void makeRuns(List<String> lines) {
        made.append("final class ReadmeRuns {\n  static void run() {\n");
        boolean inCode = false;
        for (int i = 0; i < lines.size(); i++) {
            String line = lines.get(i);
            if (line.startsWith("```")) {
                Check.holds("README.md:" + (i + 1) + ": code is Java", inCode || line.equals("```java"));
                made.append(inCode ? "    }\n" : "    {\n");
                inCode = !inCode;
            } else if (inCode) {
                made.append(made(line, i + 1));
            }
        }
        Check.holds("README.md: the last code has an end", !inCode);
        made.append("  }\n}\n");
    }

    /** A call becomes one that is held against its answer; other lines stay as they are. */
    private String made(String line, int number) {
        Matcher call = CALL.matcher(line);
        if (!call.matches()) {
            Check.holds("README.md:" + number + ": an answer stands behind the call: " + line, BARE.matcher(line).matches());
            return line + "\n";
        }
        methodsCalled.add(call.group("method"));
        String told = "\"README.md:" + number + ": " + call.group("call") + "\"";
        String answer = call.group("answer").trim();
        String due = answer.matches("-?\\d+") ? answer + "L" : answer;
        String name = call.group("name");
        if (name == null) {
            return "Check.due(" + told + ", " + call.group("call") + ", " + due + ");\n";
        }
        return "int " + name + " = " + call.group("call") + "; Check.due(" + told + ", " + name + ", " + due + ");\n";
    }

    private void everyMethodIsCalled() {
        for (Method method : ProofMap.class.getDeclaredMethods()) {
            if (Modifier.isPublic(method.getModifiers())) {
                Check.holds("README.md shows " + method.getName(), methodsCalled.contains(method.getName()));
            }
        }
    }

    private void run() throws IOException, ReflectiveOperationException {
        // Beside the other classes: Check is seen by those of its own loader alone.
        Path classes = Path.of(System.getProperty("java.class.path"));
        Path source = classes.resolve("ReadmeRuns.java");
        Files.writeString(source, made);
        int exit = ToolProvider.getSystemJavaCompiler().run(null, null, null,
            "--release", "17", "-cp", classes.toString(), "-d", classes.toString(), source.toString());
        Check.due("the compiler's exit code for README.md's code", exit, 0);
        if (exit == 0) {
            Method run = Class.forName("ReadmeRuns").getDeclaredMethod("run");
            run.setAccessible(true);
            run.invoke(null);
        }
    }

    private static void constants(String readme) {
        String told = "`BAD` is " + ProofMap.BAD + ", `NO` is " + ProofMap.NO + ", `FULL` is " + ProofMap.FULL + ".";
        Check.holds("README.md says: " + told, readme.contains(told));
    }

    private static void everyTestIsNamed(String readme) throws IOException {
        Check.holds("README.md says how to run the tests", readme.contains("\n    .ci/run\n"));
        try (Stream<Path> files = Files.list(Path.of("src", "test", "java"))) {
            for (Path file : files.toList()) {
                String name = file.getFileName().toString().replace(".java", "");
                Check.holds("README.md names " + name, !name.endsWith("Test") || readme.contains("`" + name + "`"));
            }
        }
    }
}
