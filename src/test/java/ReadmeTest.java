import java.io.IOException;
import java.nio.file.Files;
import java.nio.file.Path;
import java.util.ArrayList;
import java.util.List;
import java.util.regex.Matcher;
import java.util.regex.Pattern;

/** The examples of README.md: each line is called as it stands there and answers what its comment begins with. */
public final class ReadmeTest {
    private static final Pattern ANSWER = Pattern.compile("; +// (\\d+)(:.*)?");
    private final Check check = new Check();
    private final List<String> lines = new ArrayList<>();
    private int at = 0;

    private ReadmeTest(List<String> readme) {
        boolean isJava = false;
        for (String line : readme) {
            if (line.startsWith("```")) {
                isJava = line.equals("```java");
            } else if (isJava) {
                lines.add(line);
            }
        }
    }

    /** What stands behind the code in the next line of the examples. */
    private String behind(String code) {
        String line = at < lines.size() ? lines.get(at) : "";
        at++;
        boolean isThere = line.startsWith(code + ";");
        check.yes("line " + at + " of the examples is " + code, isThere);
        return isThere ? line.substring(code.length()) : "";
    }

    /** A line whose comment tells no number is one that is not refused. */
    private int line(String code, int got) {
        Matcher answer = ANSWER.matcher(behind(code));
        if (answer.matches()) {
            check.due(code, got, Integer.parseInt(answer.group(1)));
        } else {
            check.yes(code + " is not refused", got != HeaderSchedule.NONE);
        }
        return got;
    }

    private void line(String code, boolean got) {
        behind(code);
        check.yes(code, got);
    }

    private void oneFrame() {
        behind("HeaderSchedule bus = new HeaderSchedule()");
        HeaderSchedule bus = new HeaderSchedule();
        int frame = line("int frame = bus.frame(16, 1, 2, true)", bus.frame(16, 1, 2, true));
        int signal = line("int signal = bus.signal(frame, 0, 4, 5)", bus.signal(frame, 0, 4, 5));
        line("bus.entry(0, 0, frame, 3)", bus.entry(0, 0, frame, 3));
        line("bus.start(0)", bus.start(0));
        line("bus.write(signal, 9)", bus.write(signal, 9));
        check.yes("the frame is pending now", bus.pending(frame));
        line("bus.tick()", bus.tick());
        line("bus.read(signal)", bus.read(signal));
        line("bus.bus(0)", bus.bus(0));
    }

    private void twoAtOnce() {
        behind("HeaderSchedule car = new HeaderSchedule()");
        HeaderSchedule car = new HeaderSchedule();
        int door = line("int door = car.frame(17, 1, 2, true)", car.frame(17, 1, 2, true));
        int seat = line("int seat = car.frame(18, 2, 2, true)", car.frame(18, 2, 2, true));
        int open = line("int open = car.signal(door, 8, 1, 0)", car.signal(door, 8, 1, 0));
        int used = line("int used = car.signal(seat, 8, 1, 0)", car.signal(seat, 8, 1, 0));
        int either = line("int either = car.event(16, door, seat, HeaderSchedule.NONE, 1)",
            car.event(16, door, seat, HeaderSchedule.NONE, 1));
        line("car.entry(0, 2, either, 2)", car.entry(0, 2, either, 2));
        line("car.entry(1, 0, door, 1)", car.entry(1, 0, door, 1));
        line("car.entry(1, 0, seat, 1)", car.entry(1, 0, seat, 1));
        line("car.start(0)", car.start(0));
        line("car.write(open, 1)", car.write(open, 1));
        line("car.tick()", car.tick());
        line("car.tick()", car.tick());
        line("car.write(open, 0)", car.write(open, 0));
        line("car.write(used, 1)", car.write(used, 1));
        line("car.tick()", car.tick());
        line("car.tick()", car.tick());
        line("car.tick()", car.tick());
        line("car.position()", car.position());
        line("car.tick()", car.tick());
        line("car.read(used)", car.read(used));
        line("car.tick()", car.tick());
        check.due("position() is in table 0 again", car.position(), 1);
    }

    public static void main(String[] args) throws IOException {
        ReadmeTest test = new ReadmeTest(Files.readAllLines(Path.of("README.md")));
        test.oneFrame();
        test.twoAtOnce();
        test.check.due("lines of the examples that were called", test.at, test.lines.size());
        test.check.end();
    }
}
