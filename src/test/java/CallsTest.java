import java.io.IOException;
import java.lang.reflect.Field;
import java.lang.reflect.Method;
import java.lang.reflect.Modifier;
import java.lang.reflect.Parameter;
import java.net.URL;
import java.net.URLClassLoader;
import java.nio.file.Files;
import java.nio.file.Path;
import java.util.ArrayList;
import java.util.List;
import java.util.function.Function;
import java.util.stream.Collectors;
import java.util.stream.Stream;
import javax.tools.ToolProvider;

/**
 * No test uses an object for more than the 512 calls for which the document speaks. The tests run here once more, on a
 * class with the same face that counts its calls and hands them on; the file of the class is the first argument.
 */
public final class CallsTest {
    private static final int MOST_CALLS = 512;
    private static final Path TESTS = Path.of("src/test/java");
    // These look at the class itself, which here is another.
    private static final List<String> NOT_RUN = List.of("CallsTest", "FaceTest", "LanguageTest");

    public static void main(String[] args) throws Exception {
        Path file = Path.of(args.length > 0 ? args[0] : "src/main/java/CoatPledges.java");
        Path folder = Files.createTempDirectory("calls");
        try {
            String bare = Files.readString(file).replaceAll("\\bCoatPledges\\b", "BareCoatPledges");
            Files.writeString(folder.resolve("BareCoatPledges.java"), bare);
            Files.writeString(folder.resolve("CoatPledges.java"), counting());
            compile(folder);
            for (String test : names(TESTS)) {
                if (test.endsWith("Test") && !NOT_RUN.contains(test)) {
                    int most = mostCalls(folder, test);
                    Checks.same(test + ": calls of one object beyond the 512th", most > MOST_CALLS, false);
                }
            }
        } finally {
            delete(folder);
        }
        Checks.end("CallsTest");
    }

    private static String counting() {
        StringBuilder text = new StringBuilder("public final class CoatPledges {\n    static int most = 0;\n"
            + "    private final BareCoatPledges bare = new BareCoatPledges();\n    private int calls = 0;\n"
            + "    private BareCoatPledges counted() { calls++; most = Math.max(most, calls); return bare; }\n");
        for (Method method : CoatPledges.class.getDeclaredMethods()) {
            if (Modifier.isPublic(method.getModifiers())) {
                text.append("    public ").append(method.getReturnType()).append(' ').append(method.getName())
                    .append(listOf(method, p -> p.getType() + " " + p.getName()))
                    .append(" { return counted().").append(method.getName())
                    .append(listOf(method, Parameter::getName)).append("; }\n");
            }
        }
        return text.append("}\n").toString();
    }

    private static String listOf(Method method, Function<Parameter, String> text) {
        return Stream.of(method.getParameters()).map(text).collect(Collectors.joining(", ", "(", ")"));
    }

    private static List<String> names(Path tests) throws IOException {
        try (Stream<Path> files = Files.list(tests)) {
            return files.map(f -> f.getFileName().toString()).filter(f -> f.endsWith(".java"))
                .map(f -> f.replace(".java", "")).sorted().collect(Collectors.toList());
        }
    }

    private static void compile(Path folder) throws IOException {
        List<String> command = new ArrayList<>(List.of("-encoding", "UTF-8", "-d", folder.toString(),
            folder.resolve("BareCoatPledges.java").toString(), folder.resolve("CoatPledges.java").toString()));
        for (String name : names(TESTS)) {
            command.add(TESTS.resolve(name + ".java").toString());
        }
        int failed = ToolProvider.getSystemJavaCompiler().run(null, null, null, command.toArray(new String[0]));
        Checks.same("the counting class compiles with the tests", failed, 0);
    }

    private static int mostCalls(Path folder, String test) throws Exception {
        URL[] places = {folder.toUri().toURL()};
        try (URLClassLoader loader = new URLClassLoader(places, ClassLoader.getPlatformClassLoader())) {
            loader.loadClass(test).getMethod("main", String[].class).invoke(null, (Object) new String[0]);
            Field most = loader.loadClass("CoatPledges").getDeclaredField("most");
            most.setAccessible(true);
            return most.getInt(null);
        }
    }

    private static void delete(Path folder) throws IOException {
        List<Path> all;
        try (Stream<Path> files = Files.walk(folder)) {
            all = files.collect(Collectors.toList());
        }
        for (int n = all.size() - 1; n >= 0; n--) {
            Files.delete(all.get(n));
        }
    }
}
