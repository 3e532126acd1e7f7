import java.io.IOException;
import java.nio.file.Files;
import java.nio.file.Path;
import java.util.regex.Matcher;
import java.util.regex.Pattern;

/** The rules of ../shared/LANGUAGE.md that plain words in the source can break; it runs in the project's folder. */
public final class SourceTest {
    /** A pattern, and the rule that a line breaks in which it is found. */
    private static final String[][] NEVER = {
        {"^ *package ", "1: no package"},
        {"::", "2: no method reference"},
        {"^(?! *(case|default)\\b).*->", "2: no lambda"},
        {"\\bObject\\b", "3: a type that is not listed"},
        {"\\bMath\\.\\w+Exact\\(", "4: none whose name ends in Exact"},
        {"\\b(Collections|Stream|Optional|HashMap|HashSet|Thread|Random)\\b", "4: a library that is not listed"},
        {"\\bSystem\\.(?!arraycopy\\b)", "4: arraycopy alone"},
        {"\\bstatic *\\{", "5: no static initialiser block"},
        {"\\b(finally|synchronized|assert)\\b|\\btry *\\(", "6: a word that is not in the language"},
        {"\\b(int hashCode|String toString|boolean equals)\\(", "6: no equals, hashCode or toString of its own"},
        {"\\b(ArrayIndexOutOfBounds|StringIndexOutOfBounds|NullPointer|ClassCast|NegativeArraySize|ArrayStore)", "7"},
        {"catch *\\((Throwable|Exception|Error)\\b", "7: catches what the machine throws"},
        {"[^\\t\\x20-\\x7e]", "3: a sign that is no plain one"},
    };
    private static final Pattern IMPORT =
            Pattern.compile("import java\\.util\\.(Arrays|ArrayList|List|Iterator|NoSuchElementException);");
    private static final Pattern THROW = Pattern.compile(
            ".*\\bthrow new (IllegalState|IllegalArgument|IndexOutOfBounds|Arithmetic|UnsupportedOperation"
            + "|NoSuchElement|Runtime)Exception\\((\"[^\"]*\")?\\);.*");
    private static final Pattern COMMENT = Pattern.compile("//[^\n]*|/\\*.*?\\*/", Pattern.DOTALL);
    private static final int MOST_LINES = 66;

    private static int wrong = 0;

    private static void complain(int line, String rule) {
        wrong++;
        System.out.println("line " + line + " breaks rule " + rule);
    }

    /** The source with the line breaks of its comments alone. */
    private static String withoutComments(String source) {
        Matcher comments = COMMENT.matcher(source);
        return comments.replaceAll(found -> found.group().replaceAll("[^\n]", ""));
    }

    private static void checkLine(int number, String line) {
        for (String[] never : NEVER) {
            if (Pattern.compile(never[0]).matcher(line).find()) complain(number, never[1]);
        }
        if (line.startsWith("import ") && !IMPORT.matcher(line).matches()) complain(number, "4: imports too much");
        if (line.contains("throw ") && !THROW.matcher(line).matches()) complain(number, "6: throws in another form");
    }

    public static void main(String[] args) throws IOException {
        String[] lines = withoutComments(Files.readString(Path.of("src/main/java/CrossingPosts.java"))).split("\n");
        int methodStart = 0;
        for (int i = 0; i < lines.length; i++) {
            String line = lines[i];
            checkLine(i + 1, line);
            if (line.matches("( {4}| {8})[a-zA-Z].*[{(,]") && !line.contains(" class ")) methodStart = i;
            if (line.matches("( {4}| {8})}") && i - methodStart > MOST_LINES) complain(i + 1, "11: a long method");
        }
        if (wrong > 0) System.exit(1);
    }
}
