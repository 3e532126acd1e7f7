import java.io.IOException;
import java.nio.file.Files;
import java.nio.file.Path;
import java.util.List;

/** The rules of LANGUAGE.md that plain words in the source can break; it runs in the project's folder. */
public final class SourceTest {
    private static final String[] NEVER = {
        "package ", "->", "::", "catch", "try ", "finally", "synchronized", "assert", "static {", "enum ", "record ",
        "Object", "Exact(", "Collections", "Stream", "Random", "System.nano", "System.current", "System.out",
        "Integer.valueOf", "toString", "hashCode", "equals(", "instanceof", "Thread", "var ", "protected ",
    };
    private static final String IMPORT = "import java.util.Arrays;";
    private static final int MOST_LINES = 60;

    private static int wrong = 0;

    private static void complain(int line, String what) {
        wrong++;
        System.out.println("line " + line + ": " + what);
    }

    private static void checkLine(int number, String line) {
        for (String word : NEVER) {
            if (line.contains(word)) complain(number, "'" + word + "' is not in the language");
        }
        if (line.startsWith("import ") && !line.equals(IMPORT)) complain(number, "imports too much");
        for (int i = 0; i < line.length(); i++) {
            if (line.charAt(i) < 32 || line.charAt(i) > 126) complain(number, "holds an odd sign");
        }
        if (line.contains("throw new ") && !line.matches(
                " *throw new (IllegalArgument|IllegalState|IndexOutOfBounds)Exception\\(\"[^\"]*\"\\);")) {
            complain(number, "throws in another form");
        }
    }

    public static void main(String[] args) throws IOException {
        List<String> lines = Files.readAllLines(Path.of("src/main/java/CrossingPosts.java"));
        int methodStart = 0;
        for (int i = 0; i < lines.size(); i++) {
            String line = lines.get(i);
            checkLine(i + 1, line);
            if (line.matches("( {4}| {8})[a-zA-Z].*[{(,]") && !line.contains(" class ")) methodStart = i;
            if (line.matches("( {4}| {8})}") && i - methodStart > MOST_LINES) complain(i + 1, "ends a long method");
        }
        if (wrong > 0) System.exit(1);
    }
}
