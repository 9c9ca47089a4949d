import java.io.IOException;
import java.nio.file.Files;
import java.nio.file.Path;
import java.util.Set;
import java.util.TreeSet;
import java.util.regex.Matcher;
import java.util.regex.Pattern;

/** The rules of LANGUAGE.md as far as the words of the program tell them. */
public final class LanguageTest {
    private static final Path PROGRAM = Path.of("src/main/java/NumberSetDesk.java");
    private static final Set<String> EXCEPTIONS = Set.of("IllegalStateException", "IllegalArgumentException",
            "IndexOutOfBoundsException", "ArithmeticException", "UnsupportedOperationException",
            "NoSuchElementException", "RuntimeException");
    private static final Set<String> LIBRARY = Set.of("String", "StringBuilder", "ArrayList", "List", "Integer", "Long",
            "Math", "Iterator", "Iterable", "Comparable", "System", "Arrays", "Override");
    private static final String[] FORBIDDEN = {
        "\\bpackage\\b", "\\bsynchronized\\b", "\\bassert\\b", "\\bfinally\\b", "\\bprotected\\b", "\\bvolatile\\b",
        "\\btransient\\b", "\\bnative\\b", "\\w+Exact\\b", "\\bgetMessage\\b", "\\bSystem\\.(?!arraycopy\\b)",
        "\\bimport (?!java\\.util\\.(ArrayList|List|Iterator|NoSuchElementException|Arrays);)",
        "\\b(boolean|int|String)\\s+(equals|hashCode|toString)\\s*\\(", "\\btry\\s*\\(",
        "->", "::", "\"\"\\s*\\+|\\+\\s*\"\"", "\\bstatic\\s*\\{", "\\bthrow (?!new \\w+\\((\"\")?\\);)"
    };
    private static final int LONGEST_METHOD = 60;
    private static final Checks CHECKS = new Checks("LanguageTest");

    public static void main(String[] args) throws IOException {
        String program = Files.readString(PROGRAM);
        String code = program.replaceAll("(?s)/\\*.*?\\*/", "").replaceAll("//[^\n]*", "")
                .replaceAll("\"[^\"\n]*\"", "\"\"").replaceAll("'(\\\\.|[^'\\\\])'", "' '");
        CHECKS.due("signs beyond 127", false, program.matches("(?s).*[^\\x00-\\x7f].*"));
        for (String pattern : FORBIDDEN) {
            CHECKS.due("what the rules do not allow: " + pattern, false, Pattern.compile(pattern).matcher(code).find());
        }
        names(code);
        methods(code);
        CHECKS.end();
    }

    private static void names(String code) {
        Set<String> own = new TreeSet<>();
        Matcher declared = Pattern.compile("\\b(?:class|record|enum|interface)\\s+(\\w+)").matcher(code);
        while (declared.find()) {
            own.add(declared.group(1));
        }
        CHECKS.due("at most some twelve classes", true, own.size() <= 13);
        Set<String> strange = new TreeSet<>();
        Matcher name = Pattern.compile("\\b[A-Z][a-z]\\w*").matcher(code);
        while (name.find()) {
            if (!LIBRARY.contains(name.group()) && !EXCEPTIONS.contains(name.group()) && !own.contains(name.group())) {
                strange.add(name.group());
            }
        }
        CHECKS.due("names of classes that are not listed", "[]", strange.toString());
        Matcher thrown = Pattern.compile("\\b(?:throw new|catch \\(final|catch \\() ?(\\w+)").matcher(code);
        while (thrown.find()) {
            CHECKS.due(thrown.group() + " is of the listed exceptions", true, EXCEPTIONS.contains(thrown.group(1)));
        }
    }

    /** A method begins with a line that ends in "{" behind a ")", and ends with a "}" of the same indentation. */
    private static void methods(String code) {
        Matcher method = Pattern.compile("(?m)^( {4}| {8})[a-z][^;\n]*\\([^;=]*?\\{\n(?s:.*?)\n\\1\\}").matcher(code);
        int methods = 0;
        while (method.find()) {
            methods++;
            String text = method.group();
            CHECKS.due("a method as long as " + text.lines().count() + " lines", true,
                    text.lines().count() <= LONGEST_METHOD);
        }
        CHECKS.due("methods are found", true, methods > 56);
    }
}
