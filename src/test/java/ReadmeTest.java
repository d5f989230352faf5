import java.io.IOException;
import java.nio.file.Files;
import java.nio.file.Path;
import java.util.ArrayList;
import java.util.List;
import java.util.regex.Pattern;

/** README.md's example is made of these calls, and they answer what it says. */
public final class ReadmeTest {
    private static final Check check = new Check();
    private static final List<String> lines = new ArrayList<>();

    public static void main(String[] args) throws IOException {
        for (String line : Files.readAllLines(Path.of("README.md"))) {
            if (line.startsWith("x.")) {
                lines.add(line);
            }
        }
        SealedSectors x = new SealedSectors();
        answers("x.mount();", x.mount());
        answers("x.write(3, 42L);", x.write(3, 42L));
        answers("x.sync();", x.sync());
        answers("x.arm(2);", x.arm(2));
        answers("x.write(3, 43L);", x.write(3, 43L));
        answers("x.read(3);", x.read(3));
        answers("x.mount();", x.mount());
        answers("x.read(3);", x.read(3));
        answers("x.read(8);", x.read(8));
        answers("x.checkpoint();", x.checkpoint());
        answers("x.alter(57, 1);", x.alter(57, 1));
        answers("x.read(3);", x.read(3));
        answers("x.sound();", x.sound());
        answers("x.steps();", x.steps());
        check.due("calls of the example that are not tested", lines.size(), 0);
        check.end();
    }

    private static void answers(String call, long got) {
        boolean named = got >= SealedSectors.CUT && got <= SealedSectors.OFF;
        told(call, named ? new String[] {"OFF", "BAD", "REFUSED", "CUT"}[(int) -got - 1] : Long.toString(got));
    }

    private static void answers(String call, boolean got) {
        told(call, Boolean.toString(got));
    }

    /** The next call of the example, with the answer as the first word of its comment. */
    private static void told(String call, String answer) {
        String line = lines.isEmpty() ? "" : lines.remove(0);
        String form = Pattern.quote(call) + " +// " + answer + "(:.*)?";
        check.due("'" + line + "' says that " + call + " answers " + answer, line.matches(form), true);
    }
}
