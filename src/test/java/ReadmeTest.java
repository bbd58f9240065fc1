import java.io.IOException;
import java.nio.file.Files;
import java.nio.file.Path;
import java.util.List;

/** README.md's example: its lines stand there, and answer what the comments begin with. */
public final class ReadmeTest {
    private static final Checks checks = new Checks("ReadmeTest");

    private static List<String> readme;

    public static void main(String[] args) throws IOException {
        readme = Files.readAllLines(Path.of("README.md"));
        CalendaryPlanner planner = new CalendaryPlanner();
        int meeting = planner.ask(0, 2 | 4, 3, 8, 2);
        told("int meeting = planner.ask(0, 2 | 4, 3, 8, 2);", meeting);
        told("planner.extend(meeting, 7, 2);", planner.extend(meeting, 7, 2));
        told("planner.answer(meeting, 1, 'n');", planner.answer(meeting, 1, 'n'));
        told("planner.roomOf(meeting, 0);", planner.roomOf(meeting, 0));
        told("planner.firstCommon(1 | 8, 3, 3);", planner.firstCommon(1 | 8, 3, 3));
        told("planner.move(meeting, 1, 4, 0);", planner.move(meeting, 1, 4, 0));
        told("planner.cancel(meeting, 2);", planner.cancel(meeting, 2));
        checks.end();
    }

    private static void told(String call, Object answered) {
        String told = "no line in README.md";
        for (String line : readme) {
            int comment = line.indexOf("// ");
            if (line.startsWith(call) && comment >= 0) {
                told = line.substring(comment + 3, line.indexOf(':', comment));
            }
        }
        checks.due("README.md: " + call, told, String.valueOf(answered));
    }
}
