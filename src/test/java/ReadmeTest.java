import java.io.IOException;
import java.lang.reflect.Method;
import java.lang.reflect.Modifier;
import java.nio.file.Files;
import java.nio.file.Path;
import java.util.List;

/** The calls that README.md shows, in their order, with the answers that it names behind them. */
public final class ReadmeTest {
    private static final Checks C = new Checks();
    private static final Path HELPERS = Path.of("src/test/java/Checks.java");

    public static void main(String[] args) throws IOException, IllegalAccessException {
        Page page = new Page(C, "README.md");
        for (List<String> block : page.blocks()) {
            if (block.get(0).startsWith("static ")) {
                sameAsHelper(block);
            } else {
                page.play(block);
            }
        }
        for (Method m : LeftArguments.class.getDeclaredMethods()) {
            if (Modifier.isPublic(m.getModifiers())) {
                C.due(m.getName() + " is shown", true, page.shown().contains(m.getName()));
            }
        }
        C.finish("ReadmeTest");
    }

    /** What the page shows for feeding a text is what these tests feed by. */
    private static void sameAsHelper(List<String> block) throws IOException {
        StringBuilder helpers = new StringBuilder("\n");
        for (String line : Files.readAllLines(HELPERS)) {
            helpers.append(line.strip()).append('\n');
        }
        String wanted = "\n" + String.join("\n", block) + "\n";
        C.due(block.get(0) + " is as in " + HELPERS, true, helpers.indexOf(wanted) >= 0);
    }
}
