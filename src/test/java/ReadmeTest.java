import java.io.File;
import java.io.IOException;
import java.lang.reflect.Method;
import java.lang.reflect.Modifier;
import java.nio.file.Files;
import java.nio.file.Path;
import java.util.List;

/** README.md: its example answers what it says, and its tables name every call and every test. */
public final class ReadmeTest {
    private final Due due = new Due();
    private final List<String> lines;
    private int at = 0;

    private ReadmeTest(List<String> lines) {
        this.lines = lines;
    }

    public static void main(String[] args) throws IOException {
        ReadmeTest test = new ReadmeTest(Files.readAllLines(Path.of("README.md")));
        test.example();
        test.everyCallHasARow();
        test.everyTestHasARow();
        test.due.end();
    }

    private void example() {
        at = lines.indexOf("SectorWalk walk = new SectorWalk();") + 1;
        due.is("the example is there", true, at > 0);
        SectorWalk walk = new SectorWalk();
        says("walk.vertex(100, -100)", walk.vertex(100, -100));
        says("walk.vertex(100, 100)", walk.vertex(100, 100));
        says("walk.sector(0, 128)", walk.sector(0, 128));
        says("walk.sector(16, 128)", walk.sector(16, 128));
        says("walk.wall(0, 1, 1, 0)", walk.wall(0, 1, 1, 0));
        says("walk.build()", walk.build());
        says("walk.start(80, 0, 0, 0)", walk.start(80, 0, 0, 0));
        says("walk.step(40, 0, 0)", walk.step(40, 0, 0));
        says("walk.walker(0)", walk.walker(0));
        says("walk.walker(3)", walk.walker(3));
        says("walk.crossed(0)", walk.crossed(0));
        says("walk.stopper()", walk.stopper());
        says("walk.input(15, 0, 0)", walk.input(15, 0, 0));
        says("walk.input(0, 30, 16)", walk.input(0, 30, 16));
        says("walk.play(2)", walk.play(2));
        says("walk.walker(2)", walk.walker(2));
        says("walk.undo(1)", walk.undo(1));
        says("walk.look(6)", walk.look(6));
        due.is("the example ends here", true, at < lines.size() && lines.get(at).equals("```"));
    }

    /** The next line of the example is this call with this answer behind it. */
    private void says(String call, Object answer) {
        String line = at < lines.size() ? lines.get(at) : "";
        at++;
        String shape = "\\Q" + call + "\\E; +// " + answer + "(:.*)?";
        due.is("the line '" + line + "' tells " + call + " and " + answer, true, line.matches(shape));
    }

    private void everyCallHasARow() {
        for (Method method : SectorWalk.class.getDeclaredMethods()) {
            if (Modifier.isPublic(method.getModifiers())) {
                due.is("a row for " + method.getName(), 1, rowsThatBegin("| `" + method.getName() + "("));
            }
        }
    }

    private void everyTestHasARow() {
        String[] files = new File("src/test/java").list((dir, name) -> name.endsWith("Test.java"));
        due.is("there are tests", true, files != null && files.length > 0);
        for (String file : files == null ? new String[0] : files) {
            String name = file.substring(0, file.length() - ".java".length());
            due.is("a row for " + name, 1, rowsThatBegin("| `" + name + "` |"));
        }
    }

    private long rowsThatBegin(String text) {
        return lines.stream().filter(line -> line.startsWith(text)).count();
    }
}
