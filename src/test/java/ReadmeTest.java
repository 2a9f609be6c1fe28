import java.io.IOException;
import java.nio.file.Files;
import java.nio.file.Path;
import java.util.List;

/** The example of README.md answers what it says, and stands here line by line. Runs in the project's folder. */
public final class ReadmeTest {
    private static final Path SOURCE = Path.of("src/test/java/ReadmeTest.java");
    private static final Path README = Path.of("README.md");

    public static void main(String[] args) throws IOException {
        example();
        sameLines();
        Check.end();
    }

    private static void example() {
        RejudgeHall hall = new RejudgeHall();
        hall.code(RejudgeHall.READ, 0);
        hall.code(RejudgeHall.PRINT, 0);
        int problem = hall.problem(10, RejudgeHall.EXACT);
        hall.input(5);
        hall.test(problem, 0);
        hall.code(RejudgeHall.PUSH, 5);
        hall.code(RejudgeHall.PRINT, 0);
        int entry = hall.enter(3, problem);
        Check.due("hall.judge()", entry, hall.judge());
        Check.due("hall.entry(entry, 0)", RejudgeHall.RIGHT, hall.entry(entry, 0));
        Check.due("hall.board(3, false, 0)", 0, hall.board(3, false, 0));
    }

    private static void sameLines() throws IOException {
        String here = Files.readString(SOURCE);
        List<String> readme = Files.readAllLines(README);
        int first = readme.indexOf("```java") + 1;
        int count = 0;
        for (int i = first; first > 0 && i < readme.size() && !readme.get(i).equals("```"); i++) {
            String call = readme.get(i).replaceAll(" *(//.*)?$", "").replaceAll(";$", "");
            Check.due("stands here: " + call, true, here.contains(call));
            count++;
        }
        Check.due("lines of the example", 12, count);
    }
}
