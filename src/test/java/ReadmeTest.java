import java.io.IOException;
import java.lang.invoke.MethodHandles;
import java.nio.file.Files;
import java.nio.file.Path;
import java.util.ArrayList;
import java.util.List;
import java.util.TreeSet;
import java.util.regex.Matcher;
import java.util.regex.Pattern;
import java.util.stream.Stream;
import javax.tools.ToolProvider;

/** What README.md says of the class and of its tests is so. */
public final class ReadmeTest {
    private static final Pattern ROW = Pattern.compile("(\\S.*);\\s+// (answers|throws) ('.'|[\\w.-]+).*");
    private static final String EXAMPLE = "ReadmeExample";

    public static void main(String[] args) throws Exception {
        String readme = Files.readString(Path.of("README.md"));
        checkExample(readme);
        checkCalls(readme);
        checkTests(readme);
        Checks.end("ReadmeTest");
    }

    private static void checkExample(String readme) throws Exception {
        List<String> rows = new ArrayList<>();
        Matcher block = Pattern.compile("(?s)```java\n(.*?)```").matcher(readme);
        while (block.find()) {
            rows.addAll(List.of(block.group(1).split("\n")));
        }
        Checks.same("README.md has an example", rows.isEmpty(), false);
        StringBuilder program = new StringBuilder("import java.util.*;\npublic final class " + EXAMPLE
            + " {\n    public static void main(String[] args) {\n");
        for (String row : rows) {
            program.append("        ").append(checked(row)).append('\n');
        }
        runProgram(program.append("    }\n}\n").toString());
    }

    /** A row that says what it answers or throws becomes a check; another stays as it is. */
    private static String checked(String row) {
        Matcher matcher = ROW.matcher(row);
        if (!matcher.matches()) {
            Checks.same("README.md has a remark that is no answer: " + row, row.contains("//"), false);
            return row;
        }
        String call = matcher.group(1);
        boolean isThrown = matcher.group(2).equals("throws");
        return "Checks.same(\"README.md: " + call.replace("\"", "'") + "\", Checks.outcome(() -> " + call + "), "
            + matcher.group(3) + (isThrown ? ".class" : "") + ");";
    }

    private static void runProgram(String program) throws Exception {
        Path folder = Files.createTempDirectory("readme");
        Path source = folder.resolve(EXAMPLE + ".java");
        Path target = folder.resolve(EXAMPLE + ".class");
        try {
            Files.writeString(source, program);
            int failed = ToolProvider.getSystemJavaCompiler().run(null, null, null, "-cp",
                System.getProperty("java.class.path"), "-d", folder.toString(), source.toString());
            Checks.same("the example compiles", failed, 0);
            if (failed == 0) {
                // Another class loader would hide Checks from it.
                MethodHandles.lookup().defineClass(Files.readAllBytes(target))
                    .getMethod("main", String[].class).invoke(null, (Object) new String[0]);
            }
        } finally {
            Files.deleteIfExists(source);
            Files.deleteIfExists(target);
            Files.delete(folder);
        }
    }

    private static void checkCalls(String readme) {
        TreeSet<String> face = new TreeSet<>();
        Stream.of(CoatPledges.class.getMethods()).filter(m -> m.getDeclaringClass() == CoatPledges.class)
            .forEach(m -> face.add(m.getName()));
        Checks.same("the table of the calls", firstColumn(readme, "| calls |"), face);
    }

    private static void checkTests(String readme) throws IOException {
        TreeSet<String> tests = new TreeSet<>();
        try (Stream<Path> files = Files.list(Path.of("src/test/java"))) {
            files.map(f -> f.getFileName().toString()).filter(f -> f.endsWith("Test.java"))
                .forEach(f -> tests.add(f.replace(".java", "")));
        }
        Checks.same("the table of the tests", firstColumn(readme, "| test |"), tests);
        Checks.same(".ci/run can be run", Files.isExecutable(Path.of(".ci/run")), true);
    }

    /** The words in backticks in the first column of the table with this head. */
    private static TreeSet<String> firstColumn(String readme, String head) {
        TreeSet<String> words = new TreeSet<>();
        int start = readme.indexOf(head);
        String table = start < 0 ? "" : readme.substring(start).split("\n\n")[0];
        for (String row : table.split("\n")) {
            Matcher word = Pattern.compile("`(\\w+)`").matcher(row.replaceFirst("^(\\|[^|]*\\|).*", "$1"));
            while (word.find()) {
                words.add(word.group(1));
            }
        }
        return words;
    }
}
