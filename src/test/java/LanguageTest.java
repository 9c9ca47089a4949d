import java.io.IOException;
import java.nio.file.Files;
import java.nio.file.Path;
import java.util.Set;
import java.util.TreeSet;
import java.util.regex.Matcher;
import java.util.regex.Pattern;

/** The rules of LANGUAGE.md as far as the words of the program tell them. */
public final class LanguageTest {
    private static final Path PROGRAM = Path.of("src/main/java/NumberSetDesk.java");
    private static final Set<String> LIBRARY = Set.of(
            "IllegalArgumentException", "IndexOutOfBoundsException", "IllegalStateException", "Math", "Long", "String");
    private static final Set<String> OWN = Set.of(
            "NumberSetDesk", "Members", "Tape", "Tokens", "Statement", "Script", "Text");
    private static final String[] FORBIDDEN = {
        "package", "import", "synchronized", "assert", "finally", "try", "catch", "protected", "volatile", "transient",
        "native", "var", "yield", "equals", "hashCode", "toString"
    };
    private static final int LONGEST_METHOD = 60;
    private static final Checks CHECKS = new Checks("LanguageTest");

    public static void main(String[] args) throws IOException {
        String program = Files.readString(PROGRAM);
        String code = program.replaceAll("(?s)/\\*.*?\\*/", "").replaceAll("//[^\n]*", "")
                .replaceAll("\"[^\"\n]*\"", "\"\"").replaceAll("'(\\\\.|[^'\\\\])'", "' '");
        CHECKS.due("signs beyond 127", false, program.matches("(?s).*[^\\x00-\\x7f].*"));
        for (String word : FORBIDDEN) {
            CHECKS.due("the word " + word, false, Pattern.compile("\\b" + word + "\\b").matcher(code).find());
        }
        CHECKS.due("a lambda or a reference to a method", false, code.contains("->") || code.contains("::"));
        CHECKS.due("text joined by +", false, Pattern.compile("\"\"\\s*\\+|\\+\\s*\"\"").matcher(code).find());
        CHECKS.due("a static block", false, Pattern.compile("static\\s*\\{").matcher(code).find());
        names(code);
        methods(code);
        CHECKS.end();
    }

    private static void names(String code) {
        Set<String> strange = new TreeSet<>();
        Matcher name = Pattern.compile("\\b[A-Z][a-z]\\w*").matcher(code);
        while (name.find()) {
            if (!LIBRARY.contains(name.group()) && !OWN.contains(name.group())) {
                strange.add(name.group());
            }
        }
        CHECKS.due("names of classes that are not listed", "[]", strange.toString());
    }

    /** A method begins with a line that ends in "{" behind a ")", and ends with a "}" of the same indentation. */
    private static void methods(String code) {
        Matcher method = Pattern.compile("(?m)^( {4}| {8})[a-z][^;\n]*\\([^;=]*?\\{\n(?s:.*?)\n\\1\\}").matcher(code);
        int methods = 0;
        while (method.find()) {
            methods++;
            String text = method.group();
            CHECKS.due("a method as long as " + text.lines().count() + " lines", true,
                    text.lines().count() <= LONGEST_METHOD);
        }
        CHECKS.due("methods are found", true, methods > 100);
    }
}
