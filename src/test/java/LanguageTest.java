import java.io.IOException;
import java.nio.file.Files;
import java.nio.file.Path;
import java.util.List;
import java.util.regex.Matcher;
import java.util.regex.Pattern;

/** The rules of LANGUAGE.md that can be seen in the text of the class; the file's path is the first argument. */
public final class LanguageTest {
    private static final String[] RULED_OUT = {
        "->", "::", "\\btry\\b", "\\bcatch\\b", "\\bfinally\\b", "\\bsynchronized\\b", "\\bassert\\b", "\\bprotected\\b",
        "\\bpackage\\b", "\\bvar\\b", "\\bSystem\\b", "\\bRandom\\b", "\\bThread\\b", "\\bObject\\b", "\\bNaN\\b",
        "\\bhashCode\\b", "\\binstanceof\\b", "\\bwhile\\b", "Exact\\b", "\\bString\\.", "\" *\\+", "\\+ *\"", "@",
        "\\bjava\\.(?!util\\.NoSuchElementException;)", "\\[\\]\\[\\]", "\\bstatic\\s*\\{", "[^\\x00-\\x7f]"};

    public static void main(String[] args) throws IOException {
        Path file = Path.of(args.length > 0 ? args[0] : "src/main/java/CoatPledges.java");
        List<String> lines = Files.readAllLines(file);
        String whole = String.join("\n", lines);
        String code = whole.replaceAll("(?s)/\\*\\*.*?\\*/", "").replaceAll("//[^\n]*", "");
        for (String pattern : RULED_OUT) {
            Checks.same("what matches " + pattern, found(pattern, code), "");
        }
        Checks.same("other exceptions", found(
            "throw (?!new (IllegalState|IllegalArgument|IndexOutOfBounds|Arithmetic|UnsupportedOperation|NoSuchElement)"
            + "Exception\\(\"[^\"]*\"\\);)[^\n]*", code), "");
        Checks.same("static state", found("static (?!final|int|void|boolean|String|char)[^\n]*", code), "");
        Checks.same("at most twelve classes", count("\\bclass \\w+", code) <= 12, true);
        checkLengths(lines);
        Checks.end("LanguageTest");
    }

    private static void checkLengths(List<String> lines) {
        int start = -1;
        String indent = "";
        for (int n = 0; n < lines.size(); n++) {
            String line = lines.get(n);
            Checks.same("line " + (n + 1) + " has at most 120 characters", line.length() <= 120, true);
            if (start < 0 && line.matches(" +[^=;/]*\\)[^=;]*\\{") && line.matches("( {4}| {8})\\S.*")) {
                start = n;
                indent = line.substring(0, line.length() - line.stripLeading().length());
            } else if (start >= 0 && line.equals(indent + "}")) {
                Checks.same("method at line " + (start + 1) + " is short", n - start <= 60, true);
                start = -1;
            }
        }
    }

    private static String found(String pattern, String code) {
        Matcher matcher = Pattern.compile(pattern).matcher(code);
        return matcher.find() ? matcher.group() : "";
    }

    private static int count(String pattern, String code) {
        Matcher matcher = Pattern.compile(pattern).matcher(code);
        int count = 0;
        while (matcher.find()) {
            count++;
        }
        return count;
    }
}
