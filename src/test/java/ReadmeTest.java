import java.io.IOException;
import java.nio.file.Files;
import java.nio.file.Path;
import java.util.ArrayList;
import java.util.List;

/** The example of README.md: its calls stand here once more, and must answer what is written behind them there. */
final class ReadmeTest {
    private static List<String> lines;
    private static int next;

    private ReadmeTest() {
    }

    static void run() {
        lines = example();
        next = 0;
        Underpaint picture = new Underpaint();
        says("stuff", picture.stuff('s', 60, 100, 1, 2, 5, 0, 1500, true));
        says("stuff", picture.stuff('p', 70, 80, 8, 2, 3, 4, 1704, false));
        says("stuff", picture.stuff('v', 50, 5, 0, 8, 1, 0, 1500, true));
        says("stuff", picture.stuff('f', 80, 100, 3, 1, 2, 0, 1900, true));
        says("stuff", picture.stuff('r', 50, 100, 1, 5, 1, 0, 1900, true));
        says("lay", picture.lay(0, 100, 0, 0, 7, 5));
        says("lay", picture.lay(1, 20, 0, 0, 7, 5));
        says("lay", picture.lay(2, 10, 0, 0, 7, 5));
        says("pass", picture.pass(50));
        says("view", picture.view('p', 3, 2));
        says("note", picture.note('h', 3, 2));
        says("guesses", picture.guesses(3, 2));
        says("tooYoung", picture.tooYoung(1650));
        says("scratch", picture.scratch(3, 2, 25));
        says("solvent", picture.solvent(2, 5));
        says("swab", picture.swab(0, 0, 2, 2));
        says("tested", picture.tested(0));
        says("swab", picture.swab(0, 4, 2, 2));
        says("fill", picture.fill(3, 3, 2));
        says("retouch", picture.retouch(4, 3, 2, 77));
        says("isTold", picture.isTold(3, 2));
        says("comesOff", picture.comesOff(3, 2));
        says("leg", picture.leg(2, 55));
        says("risk", picture.risk());
        says("lend", picture.lend());
        says("acts", picture.acts());
        says("actAt", picture.actAt(4));
        Check.fails("README takeBack", UnsupportedOperationException.class, () -> picture.takeBack(4));
        says("takeBack", "UnsupportedOperationException");
        says("takeBack", picture.takeBack(9));
        says("acts", picture.acts());
        Check.same("README calls", lines.size(), next);
    }

    /** The calls of the first piece of Java in README.md, without what stands between them. */
    private static List<String> example() {
        List<String> found = new ArrayList<>();
        boolean isInside = false;
        for (String line : readme()) {
            if (isInside && line.equals("```")) {
                return found;
            }
            if (isInside && line.contains("picture.")) {
                found.add(line);
            }
            isInside = isInside || line.equals("```java");
        }
        return found;
    }

    private static List<String> readme() {
        try {
            return Files.readAllLines(Path.of("README.md"));
        } catch (IOException e) {
            Check.tell(false, "README.md can be read", e.toString(), "its lines");
            return List.of();
        }
    }

    private static void says(String name, Object answer) {
        String line = next < lines.size() ? lines.get(next) : "";
        next++;
        boolean isSaid = line.contains("picture." + name + "(") && line.endsWith("; // " + answer);
        Check.tell(isSaid, "README call " + next, name + " answers " + answer, line);
    }
}
