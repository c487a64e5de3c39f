import java.io.IOException;
import java.nio.file.Files;
import java.nio.file.Path;

/** The class keeps to LANGUAGE.md; the file's path is the first argument. The rules themselves are tried first. */
public final class LanguageTest {
    private static final String[] LEFT = {
        "int i = 0; while (i < 9) { i++; } do { i--; } while (i > 0);",
        "for (int row : rows) { if (row > 0) { continue; } else { break; } }",
        "return shape instanceof Disc d ? d.size : 0;",
        "try { check(9); } catch (IllegalStateException | IllegalArgumentException e) { return 0; }",
        "try { check(9); } catch (final RuntimeException e) { return 0; }",
        "int[][] grid = new int[3][4]; boolean[][] seen = new boolean[2][2]; Disc[] discs = new Disc[3];",
        "switch (n) { case 1 -> n = 2; case 2, 3 -> { n = 4; } default -> n = 0; }",
        "int k = switch (kind) { case FIRST -> 1; default -> 2; };",
        "System.arraycopy(a, 0, b, 0, 3); int[] c = Arrays.copyOf(a, 9); Arrays.fill(c, 1);",
        "int n = Math.max(1, Integer.compare(2, 3)) + Math.floorMod(7, 3) + Long.bitCount(5L);",
        "List<Integer> list = new ArrayList<>(); list.add(Integer.valueOf(3));",
        "Iterator<Integer> it = list.iterator(); while (it.hasNext()) { n += it.next(); }",
        "StringBuilder b = new StringBuilder(); b.append(\"a + b -> c :: d\").append('\"').append(\"throw x\");",
        "throw new IllegalStateException();",
        "throw new RuntimeException(\"the text // has /* these\");",
        "// try { System.exit(1); } finally { a -> b }\n/* static int x = 0; */",
        "int sum = n + 1; sum += 2; String s = b.toString(); if (s.equals(\"+\")) { n = 1; }"};

    private static final String[][] LEFT_OUTSIDE = {
        {"private static final int[] ROW = {1, 2};"}, {"static final String NAME = \"x\";"},
        {"private final static long BIG = 9L;"}, {"private static int twice(int n) { return n * 2; }"},
        {"private static final class Pair<T> implements Comparable<Pair<T>> { T one; Integer two; }"},
        {"enum Kind { FIRST, Second, third { int n() { return 3; } }; int n() { return 1; } }"},
        {"private record Point(int x, int y) { Point { x = x < 0 ? 0 : x; } }"},
        {"interface Shape { default int size() { return 0; } static int none() { return 0; } }"},
        {"@Override\npublic int compareTo(Point other) { return 0; } static class Point { }"}};

    private static final String[][] RULED_OUT = {
        {"2", "run(() -> 1);"}, {"2", "list.forEach(x -> { n++; });"}, {"2", "run(Disc::new);"},
        {"3", "Object o = null;"}, {"3", "HashMap<Integer, Integer> map = null;"}, {"3", "Disc[][] discs = null;"},
        {"3", "int[][][] cube = null;"}, {"3", "double d = Double.NaN;"},
        {"4", "System.out.println();"}, {"4", "Arrays.sort(a);"}, {"4", "n = Math.addExact(1, 2);"},
        {"4", "String s = String.valueOf(3);"}, {"4", "java.util.Map m = null;"}, {"4", "char c = '\u00e9';"},
        {"6", "throw e;"}, {"6", "throw new NullPointerException();"}, {"6", "throw new Error();"},
        {"6", "throw new IllegalStateException(text);"}, {"6", "throw new IllegalStateException(\"a\" + n);"},
        {"6", "try { n(); } catch (Exception e) { n = 0; }"}, {"6", "try { n(); } catch (Throwable e) { n = 0; }"},
        {"6", "try { n(); } catch (NullPointerException e) { n = 0; }"},
        {"6", "try { n(); } finally { n = 0; }"}, {"6", "synchronized (this) { n = 0; }"}, {"6", "assert n > 0;"},
        {"6", "try { n(); throw new RuntimeException(); } catch (RuntimeException e) { n = 0; }"},
        {"6", "switch (shape) { case Disc d -> n = 1; default -> n = 2; }"},
        {"10", "String s = \"n is \" + n;"}, {"10", "String s = n + \"\";"}, {"10", "s += \"x\";"},
        {"13", "long t = System.nanoTime();"}, {"13", "new Thread();"}};

    private static final String[][] RULED_OUT_OUTSIDE = {
        {"0", "package bank;"}, {"4", "import java.util.HashMap;"}, {"4", "import static java.lang.Math.max;"},
        {"5", "private static int count = 0;"}, {"5", "static int[] rows;"}, {"5", "static { }"},
        {"6", "Part() { throw new IllegalStateException(); } static class Part { }"},
        {"6", "private static final class Mine extends RuntimeException { }"},
        {"6", "public String toString() { return null; }"}, {"6", "public boolean equals(int other) { return true; }"},
        {"11", "void many(int a, int b, int c, int d, int e, int f, int g, int h) { }"},
        {"11", "void longer() {" + "\n".repeat(80) + "}"},
        {"11", "class X { } ".repeat(20)}};

    public static void main(String[] args) throws IOException {
        checkRules();
        Path file = Path.of(args.length > 0 ? args[0] : "src/main/java/CoatPledges.java");
        for (String breach : LanguageRules.breaches(Files.readString(file))) {
            Checks.same("the class, by rule", breach, "no breach");
        }
        Checks.end("LanguageTest");
    }

    private static void checkRules() {
        for (String rows : LEFT) {
            Checks.same("what is found in " + rows, LanguageRules.breaches(inMethod(rows)).toString(), "[]");
        }
        for (String[] row : LEFT_OUTSIDE) {
            Checks.same("what is found in " + row[0], LanguageRules.breaches(inClass(row[0])).toString(), "[]");
        }
        for (String[] row : RULED_OUT) {
            checkFound(row[0], inMethod(row[1]));
        }
        for (String[] row : RULED_OUT_OUTSIDE) {
            boolean isAhead = row[1].startsWith("import") || row[1].startsWith("package");
            checkFound(row[0], isAhead ? row[1] + "\n" + inClass("") : inClass(row[1]));
        }
    }

    private static void checkFound(String rule, String program) {
        boolean isFound = false;
        for (String breach : LanguageRules.breaches(program)) {
            isFound |= breach.startsWith(rule + ":");
        }
        Checks.same("rule " + rule + " is told broken in " + program, isFound, true);
    }

    private static String inMethod(String rows) {
        return inClass("private int method(int n) { " + rows + "\n }");
    }

    private static String inClass(String members) {
        return "import java.util.ArrayList;\nimport java.util.List;\n\npublic final class Disc {\n    int size;\n    "
            + members + "\n}\n";
    }
}
