import java.util.ArrayList;
import java.util.Arrays;
import java.util.List;
import java.util.TreeSet;
import java.util.regex.Matcher;
import java.util.regex.Pattern;

/**
 * Those rules of LANGUAGE.md that can be seen in the text of a program. What the rules leave is left here, too, so that
 * another program for the same document is not told wrong; where a rule says "some", a tenth more is left.
 */
final class LanguageRules {
    private static final String THROWN = "(IllegalStateException|IllegalArgumentException|IndexOutOfBoundsException"
        + "|ArithmeticException|UnsupportedOperationException|NoSuchElementException|RuntimeException)";
    private static final TreeSet<String> TYPES = new TreeSet<>(Arrays.asList("String", "StringBuilder", "Integer",
        "Long", "Math", "ArrayList", "List", "Arrays", "System", "Iterator", "Iterable", "Comparable", "IllegalStateException",
        "IllegalArgumentException", "IndexOutOfBoundsException", "ArithmeticException", "UnsupportedOperationException",
        "NoSuchElementException", "RuntimeException", "Override", "SuppressWarnings"));
    private static final TreeSet<String> CONTROL = new TreeSet<>(Arrays.asList("if", "for", "while", "switch", "catch",
        "try", "synchronized", "return", "new", "throw"));
    private static final Pattern METHOD = Pattern.compile(
        "([^;{}]*?)\\b(\\w+)\\s*\\(([^(){};]*)\\)\\s*(throws[\\w\\s,.]+)?\\{");
    // A rule's number and a pattern of what it rules out.
    private static final String[][] RULED_OUT = {
        {"0", "\\bpackage\\b"},
        {"2", "::"},
        {"3", "\\b(?!int\\b|long\\b|short\\b|byte\\b|char\\b|boolean\\b|double\\b|float\\b)\\w+\\s*\\[\\]\\s*\\[\\]"},
        {"3", "\\[\\]\\s*\\[\\]\\s*\\[\\]"},
        {"3", "\\b(NaN|Float|Double)\\b"},
        {"4", "\\bSystem\\s*\\.(?!\\s*arraycopy\\b)"},
        {"4", "\\bArrays\\s*\\.(?!\\s*(copyOf|copyOfRange|fill)\\b)"},
        {"4", "\\b(Math|Integer|Long)\\s*\\.\\s*\\w*(Exact|random)\\b"},
        {"4", "\\bString\\s*\\."},
        {"4", "\\bimport\\s+(?!java\\.util\\.(NoSuchElementException|ArrayList|List|Arrays|Iterator|\\*)\\s*;)"},
        {"4", "\\bjava\\.(?!util\\.(NoSuchElementException|ArrayList|List|Arrays|Iterator|\\*))"},
        {"5", "\\bstatic\\s*\\{"},
        {"5", "(?<=[;{}])(?=[^;{}()=]*\\bstatic\\b)(?![^;{}()=]*\\bfinal\\b)(?!\\s*import\\b)[^;{}()=]*[;=]"},
        {"6", "\\bthrow\\b(?!\\s+new\\s+" + THROWN + "\\s*\\(\\s*(\"\")?\\s*\\)\\s*;)"},
        {"6", "\\bcatch\\s*\\((?!\\s*(final\\s+)?" + THROWN + "(\\s*\\|\\s*" + THROWN + ")*\\s+\\w+\\s*\\))"},
        {"6", "\\btry\\s*\\("},
        {"6", "\\b(finally|synchronized|assert|getMessage|printStackTrace)\\b"},
        {"6", "\\bextends\\s+\\w*(Exception|Error|Throwable)\\b"},
        {"6", "\\bcase\\s+[\\w.]+\\s+\\w+\\s*(->|:)"},
        {"10", "\"\"\\s*\\+|\\+=?\\s*\"\""},
        {"13", "\\b(Thread|Random|Runtime|Process|File|Files|Instant|Clock|volatile|nanoTime|currentTimeMillis)\\b"}};

    private final String code;
    private final List<String> breaches = new ArrayList<>();

    private LanguageRules(String code) {
        this.code = code;
    }

    /** One text for each breach, which begins with the rule's number; 0 stands for what is said ahead of the rules. */
    static List<String> breaches(String text) {
        LanguageRules rules = new LanguageRules(bare(text));
        rules.findRuledOut();
        rules.findLambdas();
        rules.findTypes();
        rules.findMethods();
        rules.findSigns(text);
        return rules.breaches;
    }

    /** The text without its remarks, and with nothing in its quotes. */
    private static String bare(String text) {
        String quoted = "\"(?:\\\\.|[^\"\\\\\n])*\"|'(?:\\\\.|[^'\\\\\n])*'";
        Matcher matcher = Pattern.compile("//[^\n]*|(?s:/\\*.*?\\*/)|" + quoted).matcher(text);
        StringBuilder bare = new StringBuilder();
        while (matcher.find()) {
            String part = matcher.group();
            String left = part.startsWith("\"") ? "\"\"" : part.startsWith("'") ? "''" : part.replaceAll("[^\n]", " ");
            matcher.appendReplacement(bare, Matcher.quoteReplacement(left));
        }
        return matcher.appendTail(bare).toString();
    }

    private void breach(String rule, String what) {
        breaches.add(rule + ": " + what.strip());
    }

    private void findRuledOut() {
        for (String[] row : RULED_OUT) {
            Matcher matcher = Pattern.compile(row[1]).matcher(code);
            while (matcher.find()) {
                breach(row[0], code.substring(matcher.start(), Math.min(code.length(), matcher.end() + 30)));
            }
        }
    }

    /** An arrow stands in a switch or makes a lambda. */
    private void findLambdas() {
        Matcher matcher = Pattern.compile("([^;{}]*?)->").matcher(code);
        while (matcher.find()) {
            if (!matcher.group(1).strip().matches("(?s)(case\\b|default\\b).*")) {
                breach("2", matcher.group());
            }
        }
    }

    private void findTypes() {
        TreeSet<String> known = new TreeSet<>(TYPES);
        int classes = 0;
        Matcher own = Pattern.compile("\\b(class|interface|enum|record)\\s+([A-Z]\\w*)").matcher(code);
        while (own.find()) {
            classes++;
            known.add(own.group(2));
        }
        Matcher constants = Pattern.compile("\\benum\\s+\\w+[^{]*\\{([^;}]*)").matcher(code);
        while (constants.find()) {
            known.addAll(Arrays.asList(constants.group(1).split("\\W+")));
        }
        if (classes > 13) {
            breach("11", classes + " classes");
        }
        Matcher word = Pattern.compile("\\b[A-Z]\\w*[a-z]\\w*").matcher(code);
        while (word.find()) {
            if (!known.contains(word.group())) {
                breach("3", word.group());
            }
        }
    }

    private void findMethods() {
        Matcher matcher = METHOD.matcher(code);
        int from = 0;
        while (matcher.find(from)) {
            String name = matcher.group(2);
            if (!CONTROL.contains(name) && !matcher.group(1).matches("(?s).*\\b(new|record|else)\\s*")) {
                checkMethod(matcher);
            }
            from = matcher.end();
        }
    }

    private void checkMethod(Matcher matcher) {
        String name = matcher.group(2);
        int end = endOf(matcher.end());
        String body = code.substring(matcher.end(), end);
        boolean isThrowing = Pattern.compile("\\bthrow\\b").matcher(body).find();
        if (isThrowing && Pattern.compile("\\btry\\b").matcher(body).find()) {
            breach("6", "try and throw in " + name);
        }
        if (isThrowing && Pattern.compile("\\b(class|record|enum)\\s+" + name + "\\b").matcher(code).find()) {
            breach("6", "throw in the constructor of " + name);
        }
        if (name.matches("equals|hashCode|toString|finalize")) {
            breach("6", name);
        }
        if (matcher.group(3).split(",").length > 7) {
            breach("11", "parameters of " + name);
        }
        if (body.split("\n", -1).length > 66) {
            breach("11", "lines of " + name);
        }
    }

    private int endOf(int start) {
        int open = 1;
        for (int at = start; at < code.length(); at++) {
            open += code.charAt(at) == '{' ? 1 : code.charAt(at) == '}' ? -1 : 0;
            if (open == 0) {
                return at;
            }
        }
        return code.length();
    }

    private void findSigns(String text) {
        Matcher matcher = Pattern.compile("[^\\x00-\\x7f]").matcher(text);
        while (matcher.find()) {
            breach("4", "the sign " + (int) matcher.group().charAt(0));
        }
    }
}
