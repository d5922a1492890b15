import java.io.IOException;
import java.lang.reflect.Method;
import java.lang.reflect.Modifier;
import java.nio.file.Files;
import java.nio.file.Path;
import java.util.List;

/** README.md: its example answers what it says there, and it names every call. */
public final class ReadmeTest {
    private static final Checks c = new Checks();
    private static List<String> lines;
    private static int at;

    public static void main(String[] args) throws IOException {
        lines = Files.readAllLines(Path.of("README.md"));
        example();
        everyCall();
        howToRun();
        c.end();
    }

    private static void example() {
        at = lines.indexOf("FlakeArms x = new FlakeArms();");
        FlakeArms x = new FlakeArms();
        int g = x.growth(0, 1);
        line("int g = x.growth(0, 1);", g);
        line("x.grow(0, g);", x.grow(0, g));
        line("x.size(0, 2);", x.size(0, 2));
        line("x.unlike(0, 1, false);", x.unlike(0, 1, false));
        line("x.found(0, 0);", x.found(0, 0));
        line("x.feed(0x3b3020657375L, 6);", x.feed(0x3b3020657375L, 6));
        line("x.law();", x.law());
        line("x.fall(0, 24);", x.fall(0, 24));
        line("x.found(0, 0);", x.found(0, 0));
        line("x.miss(2);", x.miss(2));
        line("x.odds(1, g, 1);", x.odds(1, g, 1));
        line("x.shelf(0, 0, g);", x.shelf(0, 0, g));
        line("x.act(0, 1, 5);", x.act(0, 1, 5));
        line("x.trace(0);", x.trace(0));
        line("x.keep();", x.keep());
        line("x.begin(0);", x.begin(0));
        line("x.again();", x.again());
        line("x.size(0, 4);", x.size(0, 4));
        line("x.grow(0, 9);", x.grow(0, 9));
        c.due(1, "the example ends here", lineAt(at + 1).equals("```") ? 1 : 0, 1);
        c.due(26, "above the line of these odds", x.odds(1, g, 0), 1);
    }

    /** The next line of the example is this call and tells its answer behind it. */
    private static void line(String call, long answer) {
        at++;
        boolean tells = lineAt(at).matches("\\Q" + call + "\\E +// " + answer + ":.*");
        c.due(1, "README.md at " + (at + 1) + " tells " + call + " and " + answer, tells ? 1 : 0, 1);
    }

    private static String lineAt(int i) {
        return i >= 0 && i < lines.size() ? lines.get(i) : "";
    }

    private static void everyCall() {
        String table = String.join("\n", lines.stream().filter(s -> s.startsWith("| `")).toList());
        for (Method m : FlakeArms.class.getDeclaredMethods()) {
            if (Modifier.isPublic(m.getModifiers())) {
                c.due(1, "README.md names " + m.getName(), table.contains("`" + m.getName() + "`") ? 1 : 0, 1);
            }
        }
    }

    private static void howToRun() {
        c.due(1, "README.md tells how to run the tests", lines.contains("bash .ci/run") ? 1 : 0, 1);
    }
}
