import java.io.IOException;
import java.lang.reflect.Method;
import java.lang.reflect.Modifier;
import java.net.URL;
import java.net.URLClassLoader;
import java.nio.file.Files;
import java.nio.file.Path;
import java.util.ArrayList;
import java.util.List;
import java.util.Set;
import java.util.TreeSet;
import java.util.concurrent.Callable;
import java.util.regex.Matcher;
import java.util.regex.Pattern;
import java.util.stream.Stream;
import javax.tools.ToolProvider;

/**
 * The examples of README.md are made into one program, compiled and run: each call answers what
 * stands behind it. Each call of the face is shown, and each file of the tests is told.
 */
public final class ReadmeTest {
    private static final String FENCE = "```";
    private static final String PROGRAM = "ReadmeProgram";
    private static final Pattern NEW_LINE = Pattern.compile("FarCacheLine \\w+ = new FarCacheLine\\(\\d+\\);( +//.*)?");
    /** A variable that keeps the answer, the call and its name, and the answer that is due. */
    private static final Pattern CALL = Pattern.compile(
        "(?:(\\w+) (\\w+) = )?(\\w+\\.(\\w+)\\([^()]*\\)); +// (-?\\d+|true|false|throws \\w+)(?:: .+)?");

    private ReadmeTest() {
    }

    public static void main(String[] args) throws IOException, ReflectiveOperationException {
        String readme = Files.readString(Path.of("README.md"));
        List<String> examples = examplesOf(readme);
        allCallsAreShown(examples);
        Path folder = Files.createTempDirectory("readme");
        runProgram(programOf(examples), folder);
        remove(folder);
        allFilesAreTold(readme);
        Due.yes(".ci/run can be run", Files.isExecutable(Path.of(".ci/run")));
        Due.close();
    }

    /** What the program that is made of the examples asks of each call. */
    public static void answered(String call, String due, Callable<Object> made) {
        String answer;
        try {
            answer = String.valueOf(made.call());
        } catch (Exception e) {
            answer = "throws " + e.getClass().getSimpleName();
        }
        Due.is(call, answer, due);
    }

    private static List<String> examplesOf(String readme) {
        List<String> lines = new ArrayList<>();
        boolean inside = false;
        for (String line : readme.lines().toList()) {
            if (line.startsWith(FENCE)) {
                inside = line.equals(FENCE + "java");
            } else if (inside) {
                lines.add(line);
            }
        }
        return lines;
    }

    private static void allCallsAreShown(List<String> examples) {
        Set<String> shown = new TreeSet<>();
        for (String line : examples) {
            Matcher call = CALL.matcher(line);
            if (call.matches()) {
                shown.add(call.group(4));
            }
        }
        for (Method method : FarCacheLine.class.getDeclaredMethods()) {
            if (Modifier.isPublic(method.getModifiers())) {
                Due.yes("README.md shows " + method.getName(), shown.contains(method.getName()));
            }
        }
    }

    private static String programOf(List<String> examples) {
        StringBuilder program = new StringBuilder("public final class " + PROGRAM + " {\n");
        program.append("public static void run() {\n");
        for (String line : examples) {
            boolean asItStands = line.isEmpty() || isOfLoop(line) || NEW_LINE.matcher(line).matches();
            program.append(asItStands ? line : asked(line)).append('\n');
        }
        return program.append("}\n}\n").toString();
    }

    /** A call in a loop has several answers, so none stands behind it. */
    private static boolean isOfLoop(String line) {
        return line.startsWith("for (") || line.startsWith("    ") || line.equals("}");
    }

    private static String asked(String line) {
        Matcher call = CALL.matcher(line);
        boolean fits = call.matches();
        Due.yes("'" + line + "' is a call with its answer behind it", fits);
        if (!fits) {
            return "";
        }
        String made = call.group(3);
        String variable = call.group(2);
        String kept = variable == null ? "" : call.group(1) + " " + variable + " = " + made + "; ";
        String question = "\"" + made + "\", \"" + call.group(5) + "\", () -> " + (variable == null ? made : variable);
        return kept + "ReadmeTest.answered(" + question + ");";
    }

    private static void runProgram(String program, Path folder) throws IOException, ReflectiveOperationException {
        Path source = folder.resolve(PROGRAM + ".java");
        Files.writeString(source, program);
        String classes = System.getProperty("java.class.path");
        int failed = ToolProvider.getSystemJavaCompiler().run(null, null, null,
            "-cp", classes, "-d", folder.toString(), source.toString());
        Due.is("compiling the examples of README.md", failed, 0);
        if (failed == 0) {
            try (URLClassLoader loader = new URLClassLoader(new URL[] {folder.toUri().toURL()})) {
                loader.loadClass(PROGRAM).getMethod("run").invoke(null);
            }
        }
    }

    private static void remove(Path folder) throws IOException {
        try (Stream<Path> files = Files.list(folder)) {
            for (Path file : files.toList()) {
                Files.delete(file);
            }
        }
        Files.delete(folder);
    }

    private static void allFilesAreTold(String readme) throws IOException {
        Set<String> told = new TreeSet<>();
        Matcher name = Pattern.compile("`@?(\\w+)`").matcher(readme);
        while (name.find()) {
            told.add(name.group(1));
        }
        Set<String> there = new TreeSet<>();
        try (Stream<Path> files = Files.list(Path.of("src/test/java"))) {
            files.forEach(file -> there.add(file.getFileName().toString().replace(".java", "")));
        }
        for (String file : there) {
            Due.yes("README.md tells of " + file, told.contains(file));
        }
        for (String file : told) {
            if (file.endsWith("Test")) {
                Due.yes(file + ", of which README.md tells, is there", there.contains(file));
            }
        }
    }
}
