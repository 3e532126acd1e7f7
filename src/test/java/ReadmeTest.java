import java.io.IOException;
import java.nio.file.Files;
import java.nio.file.Path;
import java.util.List;
import java.util.stream.Collectors;

/** The example of README.md: each call answers what stands behind it; it runs in the project's folder. */
public final class ReadmeTest {
    private final Check check = new Check();
    private final List<String> lines;
    private int told = 0;

    private ReadmeTest(List<String> lines) {
        this.lines = lines;
    }

    /** The README has the call in this place of its example, with the answer that is due. */
    private void answers(String code, Object due, Check.Call call) {
        check.title(code);
        String line = told < lines.size() ? lines.get(told) : "";
        check.is(true, () -> line.matches("\\Qroad." + code + ";\\E +// \\Q" + due + "\\E: .*"));
        check.is(due, call);
        told++;
    }

    private void example() {
        CrossingPosts road = new CrossingPosts();
        answers("addHoliday(9, 11)", 0, () -> road.addHoliday(9, 11));
        answers("addPost(10, 1023)", 0, () -> road.addPost(10, 1023));
        answers("addPost(30, 1)", 1, () -> road.addPost(30, 1));
        answers("addGuard(12, 5, 0)", 0, () -> road.addGuard(12, 5, 0));
        answers("open(0, 0)", 2, () -> road.open(0, 0));
        answers("step()", 2, () -> road.step());
        answers("post(1, 8)", 2, () -> road.post(1, 8));
        answers("complain(1)", 1, () -> road.complain(1));
        answers("sick(0, 2)", 2, () -> road.sick(0, 2));
        answers("bestHome(7)", 10, () -> road.bestHome(7));
        answers("pass(1)", 1, () -> road.pass(1));
        answers("undo()", 3, () -> road.undo());
        answers("filled()", 0.5, () -> road.filled());
        for (char sign : "d1;s0,3;".toCharArray()) road.append(sign);
        answers("carryOut()", 2, () -> road.carryOut());
        check.title("the lines with an answer");
        check.is(lines.size(), () -> told);
        check.end();
    }

    public static void main(String[] args) throws IOException {
        List<String> lines = Files.readAllLines(Path.of("README.md"));
        new ReadmeTest(lines.stream().filter(line -> line.contains("; ") && line.contains("// "))
                .collect(Collectors.toList())).example();
    }
}
