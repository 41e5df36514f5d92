import java.io.IOException;
import java.lang.reflect.Method;
import java.lang.reflect.Modifier;
import java.net.URL;
import java.net.URLClassLoader;
import java.nio.charset.StandardCharsets;
import java.nio.file.Files;
import java.nio.file.Path;
import java.util.Comparator;
import java.util.List;
import java.util.TreeSet;
import java.util.regex.Matcher;
import java.util.regex.Pattern;
import java.util.stream.Stream;
import javax.tools.JavaCompiler;
import javax.tools.ToolProvider;

/** What README.md shows: its examples answer what stands there, its tables hold, and its commands run. */
final class ReadmeTest {
    private static final Path TESTS = Path.of("src/test/java");
    private static final Pattern CODE = Pattern.compile("^\\| `([A-Z_]+)` \\| (-?\\d+) \\|.*");
    private static final Pattern TEST = Pattern.compile("^\\| `(\\w+Test)` \\|.*");
    private static final Pattern CALL = Pattern.compile("`(\\w+)\\(\\)`");

    public static void main(String[] args) throws IOException, ReflectiveOperationException {
        Path readme = Path.of(args.length > 0 ? args[0] : "README.md");
        List<String> lines = Files.readAllLines(readme, StandardCharsets.UTF_8);
        Path room = Files.createTempDirectory("readme");
        try {
            examples(new ReadmeExamples(lines), room);
            commands(lines, room);
        } finally {
            empty(room);
        }
        codes(lines);
        calls(lines);
        tests(lines);
        Due.finish("ReadmeTest");
    }

    private static void empty(Path room) throws IOException {
        try (Stream<Path> files = Files.walk(room)) {
            for (Path file : files.sorted(Comparator.reverseOrder()).toList()) {
                Files.delete(file);
            }
        }
    }

    private static void examples(ReadmeExamples examples, Path room) throws IOException, ReflectiveOperationException {
        for (String line : examples.unanswered()) {
            Due.same("a line that shows no answer", line, "");
        }
        Due.due("calls with an answer", examples.answered() > 40 ? 1 : 0, 1);
        Due.due("orders with a call", examples.orders(), 7);
        Path source = room.resolve(ReadmeExamples.NAME + ".java");
        Files.writeString(source, examples.source(), StandardCharsets.UTF_8);
        JavaCompiler compiler = ToolProvider.getSystemJavaCompiler();
        Due.due("that there is a compiler", compiler == null ? 0 : 1, 1);
        if (compiler == null) {
            return;
        }
        int failed = compiler.run(null, null, null, "--release", "17", "-cp", System.getProperty("java.class.path"),
            "-d", room.toString(), source.toString());
        Due.due("compiling the examples", failed, 0);
        if (failed == 0) {
            compare(examples, room);
        }
    }

    private static void compare(ReadmeExamples examples, Path room) throws IOException, ReflectiveOperationException {
        ClassLoader here = ReadmeTest.class.getClassLoader();
        try (URLClassLoader loader = new URLClassLoader(new URL[] {room.toUri().toURL()}, here)) {
            Class<?> compiled = loader.loadClass(ReadmeExamples.NAME);
            long[][] answers = (long[][]) compiled.getMethod("answers").invoke(null);
            Due.due("answers of the examples", answers.length, examples.answered());
            for (long[] answer : answers) {
                Due.due(examples.line((int) answer[0]), answer[1], answer[2]);
            }
            PianoCovers[][] twins = (PianoCovers[][]) compiled.getMethod("twins").invoke(null);
            Due.due("orders that were carried out", twins.length, examples.orders());
            for (PianoCovers[] twin : twins) {
                String seen = Help.street(twin[0]);
                Due.same("the order as the call", seen, Help.street(twin[1]));
                Due.due("and it does something", Help.street(twin[2]).equals(seen) ? 0 : 1, 1);
            }
        }
    }

    /** All commands but .ci/run, which runs this test. */
    private static void commands(List<String> lines, Path room) throws IOException {
        List<String> commands = ReadmeExamples.linesOf("sh", lines);
        Due.due("commands", commands.size(), 2);
        for (String command : commands) {
            if (command.equals(".ci/run")) {
                Due.due(".ci/run can be run", Files.isExecutable(Path.of(command)) ? 1 : 0, 1);
            } else {
                Due.due(command, run(command.replace("/tmp/t", room.resolve("t").toString())), 0);
            }
        }
    }

    private static int run(String command) throws IOException {
        Process process = new ProcessBuilder("sh", "-c", command).redirectErrorStream(true)
            .redirectOutput(ProcessBuilder.Redirect.DISCARD).start();
        process.getOutputStream().close();
        try {
            return process.waitFor();
        } catch (InterruptedException e) {
            process.destroy();
            return -1;
        }
    }

    private static void codes(List<String> lines) throws ReflectiveOperationException {
        TreeSet<String> named = new TreeSet<>();
        for (String line : lines) {
            Matcher row = CODE.matcher(line);
            if (row.matches()) {
                named.add(row.group(1));
                int code = PianoCovers.class.getField(row.group(1)).getInt(null);
                Due.due(row.group(1), code, Integer.parseInt(row.group(2)));
            }
        }
        Due.same("codes", named.toString(), "[BAD_TEXT, BAD_VALUE, NONE, NOT_POSSIBLE, NO_SUCH, TOO_MANY]");
    }

    /** The table of the calls names each method once. */
    private static void calls(List<String> lines) {
        TreeSet<String> named = new TreeSet<>();
        for (String line : lines) {
            Matcher call = CALL.matcher(line);
            while (line.matches("^\\| `\\w+\\(\\)`.*") && call.find()) {
                Due.due(call.group(1) + " is named once", named.add(call.group(1)) ? 1 : 0, 1);
            }
        }
        TreeSet<String> methods = new TreeSet<>();
        for (Method method : PianoCovers.class.getDeclaredMethods()) {
            if (Modifier.isPublic(method.getModifiers())) {
                methods.add(method.getName());
            }
        }
        Due.same("calls", named.toString(), methods.toString());
    }

    private static void tests(List<String> lines) throws IOException {
        TreeSet<String> named = new TreeSet<>();
        for (String line : lines) {
            Matcher row = TEST.matcher(line);
            if (row.matches()) {
                named.add(row.group(1) + ".java");
            }
        }
        TreeSet<String> there = new TreeSet<>();
        try (Stream<Path> files = Files.list(TESTS)) {
            files.map(file -> file.getFileName().toString()).filter(name -> name.endsWith("Test.java"))
                .forEach(there::add);
        }
        Due.same("tests", named.toString(), there.toString());
    }
}
