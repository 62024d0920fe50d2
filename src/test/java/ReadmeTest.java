import java.io.IOException;
import java.lang.reflect.Method;
import java.lang.reflect.Modifier;
import java.net.URL;
import java.net.URLClassLoader;
import java.nio.charset.StandardCharsets;
import java.nio.file.Files;
import java.nio.file.Path;
import java.util.ArrayList;
import java.util.List;
import java.util.TreeSet;
import java.util.regex.Matcher;
import java.util.regex.Pattern;
import java.util.stream.Stream;
import javax.tools.JavaCompiler;
import javax.tools.ToolProvider;

/**
 * That README.md tells the truth: its examples are compiled as they stand there and answer as their comments say, and
 * its tables name every call and every test. .ci/run starts it in the project's folder.
 */
public final class ReadmeTest {
    private static final Expect EXPECT = new Expect("ReadmeTest");
    private static final Path README = Path.of("README.md");
    private static final Path BUILD = Path.of("build/ci/readme");
    private static final Path TESTS = Path.of("src/test/java");
    private static final Pattern EXAMPLE = Pattern.compile("```java\n(.*?)```", Pattern.DOTALL);
    private static final Pattern LINE = Pattern.compile("((?:int|boolean) (\\w+) = )?(x\\.\\w+\\(.*?\\)); +// (.+)");
    private static final Pattern ANSWER =
        Pattern.compile("(?:throws (\\w+)|(-?\\d+|true|false)(?:, ([A-Z_]+))?)(?:: .+)?");
    private static final Pattern CALL_ROW = Pattern.compile("(?m)^\\| `(\\w+)\\(([\\w, ]*)\\)` \\| .+ \\| (\\d+) \\|$");
    private static final Pattern TEST_ROW = Pattern.compile("(?m)^\\| `(\\w+Test)` \\|");
    private static final Pattern PROMISE =
        Pattern.compile("(?m)^## Promise (\\d+)[^\n]*\n+`(?:int |boolean )?(\\w+)\\(([^)]*)\\)");

    public static void main(String[] args) throws Exception {
        String text = Files.readString(README, StandardCharsets.UTF_8);
        examples(text);
        calls(text);
        tests(text);
        howToRun(text);
        EXPECT.finish();
    }

    private static void examples(String text) throws Exception {
        StringBuilder code = new StringBuilder("public final class ReadmeExamples {\n");
        code.append("    public static java.util.List<String> told = new java.util.ArrayList<>();\n");
        List<String> due = new ArrayList<>();
        Matcher example = EXAMPLE.matcher(text);
        int examples = 0;
        while (example.find()) {
            examples++;
            code.append("    public static void example").append(examples).append("() {\n");
            for (String line : example.group(1).split("\n")) {
                code.append(asChecked(line, due));
            }
            code.append("    }\n");
        }
        EXPECT.yes("README.md has examples", examples > 0 && !due.isEmpty());
        Class<?> compiled = compile(code.append("}\n").toString());
        if (compiled == null) {
            return;
        }
        for (int i = 1; i <= examples; i++) {
            compiled.getMethod("example" + i).invoke(null);
        }
        compare(due, (List<?>) compiled.getField("told").get(null));
    }

    /** The line as it stands, with its answer, or what it throws, put into the list of what was told. */
    private static String asChecked(String line, List<String> due) {
        if (line.equals("CreditLinks x = new CreditLinks();")) {
            return "        " + line + "\n";
        }
        Matcher parts = LINE.matcher(line);
        Matcher answer = ANSWER.matcher(parts.matches() ? parts.group(4) : "");
        if (!answer.matches()) {
            EXPECT.yes("README.md tells no answer of: " + line, false);
            return "";
        }
        due.add(line.trim());
        if (answer.group(1) != null) {
            return "        try { told.add(\"\" + " + parts.group(3) + "); } catch (RuntimeException e) {"
                + " told.add(\"throws \" + e.getClass().getSimpleName()); }\n";
        }
        String call = parts.group(3);
        String ahead = "";
        if (parts.group(1) != null) {
            ahead = "        " + parts.group(1) + call + ";\n";
            call = parts.group(2);
        }
        // The constant that is named behind the number is looked up when the example runs.
        String name = answer.group(3) == null ? "" : " + \", \" + CreditLinks." + answer.group(3);
        return ahead + "        told.add(\"\" + " + call + name + ");\n";
    }

    private static void compare(List<String> due, List<?> told) {
        EXPECT.same("how many answers of the examples", told.size(), due.size());
        for (int i = 0; i < due.size() && i < told.size(); i++) {
            Matcher answer = ANSWER.matcher(due.get(i).replaceFirst("^.*?; +// ", ""));
            EXPECT.yes("an answer stands in " + due.get(i), answer.matches());
            String number = answer.group(2);
            String expected = answer.group(1) != null ? "throws " + answer.group(1)
                : answer.group(3) != null ? number + ", " + number : number;
            EXPECT.same("README.md, " + due.get(i), told.get(i).toString(), expected);
        }
    }

    private static Class<?> compile(String code) throws IOException, ClassNotFoundException {
        Files.createDirectories(BUILD);
        Path source = BUILD.resolve("ReadmeExamples.java");
        Files.writeString(source, code, StandardCharsets.UTF_8);
        JavaCompiler compiler = ToolProvider.getSystemJavaCompiler();
        EXPECT.yes("there is a compiler", compiler != null);
        if (compiler == null) {
            return null;
        }
        int exit = compiler.run(null, null, null, "--release", "17", "-d", BUILD.toString(),
            "src/main/java/CreditLinks.java", source.toString());
        EXPECT.same("the exit code of javac over the examples of README.md", exit, 0);
        if (exit != 0) {
            return null;
        }
        URL[] places = {BUILD.toUri().toURL()};
        return Class.forName("ReadmeExamples", true, new URLClassLoader(places));
    }

    /** The table of calls names each promise's call, its parameters and its number, as the document does. */
    private static void calls(String text) throws IOException {
        String document = Files.readString(Path.of("../shared/DOC.md"), StandardCharsets.UTF_8);
        List<String> due = new ArrayList<>();
        Matcher promise = PROMISE.matcher(document);
        while (promise.find()) {
            String parameters = promise.group(3).replaceAll("(int|boolean) ", "");
            due.add(promise.group(1) + " " + promise.group(2) + "(" + parameters + ")");
        }
        List<String> found = new ArrayList<>();
        Matcher row = CALL_ROW.matcher(text);
        while (row.find()) {
            found.add(row.group(3) + " " + row.group(1) + "(" + row.group(2) + ")");
        }
        EXPECT.same("how many promises the document has", due.size(), 22);
        EXPECT.same("the table of calls", found.toString(), due.toString());
        for (Method method : CreditLinks.class.getDeclaredMethods()) {
            boolean named = text.contains("| `" + method.getName() + "(");
            EXPECT.yes("the table has no " + method.getName(), named || !Modifier.isPublic(method.getModifiers()));
        }
    }

    private static void tests(String text) throws IOException {
        TreeSet<String> due = new TreeSet<>();
        try (Stream<Path> files = Files.list(TESTS)) {
            for (Path file : files.toList()) {
                String name = file.getFileName().toString().replace(".java", "");
                EXPECT.yes("README.md does not name " + name, text.contains("`" + name + "`"));
                if (name.endsWith("Test")) {
                    due.add(name);
                }
            }
        }
        TreeSet<String> found = new TreeSet<>();
        Matcher row = TEST_ROW.matcher(text);
        while (row.find()) {
            found.add(row.group(1));
        }
        EXPECT.same("the table of tests", found.toString(), due.toString());
    }

    private static void howToRun(String text) {
        EXPECT.yes("README.md tells to start .ci/run", text.contains("\n```\n.ci/run\n```\n"));
        EXPECT.yes(".ci/run can be executed", Files.isExecutable(Path.of(".ci/run")));
    }
}
