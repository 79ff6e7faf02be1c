import java.io.File;
import java.io.IOException;
import java.lang.reflect.Method;
import java.net.URL;
import java.net.URLClassLoader;
import java.nio.file.DirectoryStream;
import java.nio.file.Files;
import java.nio.file.Path;
import java.util.ArrayList;
import java.util.List;
import java.util.Set;
import java.util.TreeSet;
import java.util.regex.Matcher;
import java.util.regex.Pattern;

/** README.md holds as it stands: its example, its calls, its commands and its list of tests. */
public final class ReadmeTest {
    private static final Path WORK = Path.of("build/readme");
    private static final Pattern BLOCK = Pattern.compile("^```(\\w+)\\n(.*?)^```$", Pattern.MULTILINE | Pattern.DOTALL);
    private static final Pattern ANSWERED = Pattern.compile("(?:int (\\w+) = )?(pads\\..*\\));\\s*// (-?\\d+|[A-Z]+): .+");
    private static final Pattern CALL_ROW = Pattern.compile("^\\| `(\\w+)\\(([^)]*)\\)` \\|.*\\|$", Pattern.MULTILINE);
    private static final Pattern TEST_ROW = Pattern.compile("^\\| `(\\w+Test)` \\|.*\\|$", Pattern.MULTILINE);
    private static final String FIRST_LINE = "IcePads pads = new IcePads();";
    private static final String ALL_TESTS = ".ci/run";

    public static void main(String[] args) throws Exception {
        String readme = Files.readString(Path.of("README.md"));
        exampleAnswersAsItSays(readme);
        everyCallIsListed(readme);
        everyTestIsListed(readme);
        commandsRun(readme);
        Checks.finish();
    }

    private static List<String> blocks(String readme, String language) {
        List<String> found = new ArrayList<>();
        Matcher blocks = BLOCK.matcher(readme);
        while (blocks.find()) {
            if (blocks.group(1).equals(language)) found.add(blocks.group(2));
        }
        return found;
    }

    // ---- the example

    private static void exampleAnswersAsItSays(String readme) throws Exception {
        List<String> examples = blocks(readme, "java");
        Checks.due("examples", examples.size(), 1);
        List<String> calls = new ArrayList<>();
        StringBuilder body = new StringBuilder();
        for (String line : examples.get(0).split("\n")) {
            Matcher answered = ANSWERED.matcher(line);
            if (answered.matches()) {
                calls.add(answered.group(2));
                body.append(asked(answered));
            } else {
                Checks.due("a line without an answer", line.isEmpty() ? FIRST_LINE : line, FIRST_LINE);
                body.append(line).append('\n');
            }
        }
        long[][] gotAndWant = run(body.toString());
        Checks.due("answers of the example", gotAndWant.length, calls.size());
        for (int i = 0; i < calls.size(); i++) Checks.due(calls.get(i), gotAndWant[i][0], gotAndWant[i][1]);
    }

    /** The line as a statement that keeps what the call answered beside what the line says of it. */
    private static String asked(Matcher line) {
        String name = line.group(1);
        String want = line.group(3);
        String due = Character.isLetter(want.charAt(0)) ? "IcePads." + want : want;
        String got = name == null ? line.group(2) : name;
        String made = name == null ? "" : "int " + name + " = " + line.group(2) + ";\n";
        return made + "all.add(new long[] {" + got + ", " + due + "});\n";
    }

    private static long[][] run(String body) throws Exception {
        Files.createDirectories(WORK);
        Path source = WORK.resolve("Example.java");
        Files.writeString(source, "public final class Example {\n"
                + "public static long[][] run() {\n"
                + "java.util.List<long[]> all = new java.util.ArrayList<>();\n"
                + body
                + "return all.toArray(new long[0][]);\n}\n}\n");
        int code = codeOf("javac", "-cp", System.getProperty("java.class.path"), "-d", WORK.toString(), source.toString());
        Checks.due("javac of the example", code, 0);
        if (code != 0) return new long[0][];
        try (URLClassLoader loader = new URLClassLoader(new URL[] {WORK.toUri().toURL()})) {
            return (long[][]) loader.loadClass("Example").getMethod("run").invoke(null);
        }
    }

    // ---- the lists

    private static void everyCallIsListed(String readme) {
        Set<String> listed = new TreeSet<>();
        Matcher rows = CALL_ROW.matcher(readme);
        while (rows.find()) {
            int parameters = rows.group(2).isEmpty() ? 0 : rows.group(2).split(",").length;
            listed.add(rows.group(1) + "/" + parameters);
        }
        Set<String> calls = new TreeSet<>();
        for (Method method : IcePads.class.getMethods()) {
            if (method.getDeclaringClass() == IcePads.class) calls.add(method.getName() + "/" + method.getParameterCount());
        }
        Checks.due("the calls that are listed", listed.toString(), calls.toString());
    }

    private static void everyTestIsListed(String readme) throws IOException {
        Set<String> listed = new TreeSet<>();
        Matcher rows = TEST_ROW.matcher(readme);
        while (rows.find()) listed.add(rows.group(1));
        Set<String> tests = new TreeSet<>();
        try (DirectoryStream<Path> files = Files.newDirectoryStream(Path.of("src/test/java"), "*Test.java")) {
            for (Path file : files) tests.add(file.getFileName().toString().replace(".java", ""));
        }
        Checks.due("the tests that are listed", listed.toString(), tests.toString());
    }

    // ---- the commands

    private static void commandsRun(String readme) throws Exception {
        List<String> commands = blocks(readme, "sh");
        Checks.due("the command for all tests", commands.contains(ALL_TESTS + "\n") ? 1 : 0, 1);
        Checks.due("it can be run", new File(ALL_TESTS).canExecute() ? 1 : 0, 1);
        for (String command : commands) {
            // This test is itself a part of .ci/run, which would never end if it were run from here.
            if (!command.contains(ALL_TESTS)) Checks.due(command, codeOf("sh", "-e", "-c", command), 0);
        }
    }

    private static int codeOf(String... words) throws Exception {
        return new ProcessBuilder(words).inheritIO().start().waitFor();
    }
}
