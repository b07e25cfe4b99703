import java.io.IOException;
import java.lang.reflect.InvocationTargetException;
import java.lang.reflect.Method;
import java.lang.reflect.Modifier;
import java.nio.file.Files;
import java.nio.file.Path;
import java.util.ArrayList;
import java.util.List;
import java.util.Set;
import java.util.TreeSet;
import java.util.regex.Matcher;
import java.util.regex.Pattern;

/** The calls that README.md shows, in their order, with the answers that it names behind them. */
public final class ReadmeTest {
    private static final Checks C = new Checks();
    private static final Path PAGE = Path.of("README.md");
    private static final Path HELPERS = Path.of("src/test/java/Checks.java");
    private static final String ANSWER = "\\s+// (throws [A-Za-z]+|[A-Z]+|true|false|-?\\d+)(?:[:;,.] .*)?";
    private static final Pattern FEEDING = Pattern.compile("feed\\(x, \"([^\"]*)\"\\);" + ANSWER);
    private static final Pattern CALL = Pattern.compile("x\\.([a-z]+)\\(([^()]*)\\);" + ANSWER);

    private final Set<String> shown = new TreeSet<>();
    private LeftArguments x = null;

    public static void main(String[] args) throws IOException, IllegalAccessException {
        ReadmeTest reader = new ReadmeTest();
        for (List<String> block : blocks()) {
            if (block.get(0).startsWith("static ")) {
                sameAsHelper(block);
            } else {
                reader.play(block);
            }
        }
        for (Method m : LeftArguments.class.getDeclaredMethods()) {
            if (Modifier.isPublic(m.getModifiers())) {
                C.due(m.getName() + " is shown", true, reader.shown.contains(m.getName()));
            }
        }
        C.finish("ReadmeTest");
    }

    /** The lines of each piece of Java on the page, without those that are empty. */
    private static List<List<String>> blocks() throws IOException {
        List<List<String>> blocks = new ArrayList<>();
        boolean within = false;
        for (String line : Files.readAllLines(PAGE)) {
            if (line.equals("```java")) {
                within = true;
                blocks.add(new ArrayList<>());
            } else if (line.startsWith("```")) {
                within = false;
            } else if (within && !line.isBlank()) {
                blocks.get(blocks.size() - 1).add(line.strip());
            }
        }
        C.due("the page shows Java", true, !blocks.isEmpty());
        return blocks;
    }

    /** What the page shows for feeding a text is what these tests feed by. */
    private static void sameAsHelper(List<String> block) throws IOException {
        StringBuilder helpers = new StringBuilder("\n");
        for (String line : Files.readAllLines(HELPERS)) {
            helpers.append(line.strip()).append('\n');
        }
        String wanted = "\n" + String.join("\n", block) + "\n";
        C.due(block.get(0) + " is as in " + HELPERS, true, helpers.indexOf(wanted) >= 0);
    }

    private void play(List<String> block) throws IllegalAccessException {
        for (String line : block) {
            Matcher feeding = FEEDING.matcher(line);
            Matcher call = CALL.matcher(line);
            if (line.equals("LeftArguments x = new LeftArguments();")) {
                x = new LeftArguments();
            } else if (feeding.matches()) {
                C.due(line, numberOf(feeding.group(2)), Checks.feed(x, feeding.group(1)));
            } else if (call.matches()) {
                ask(line, call.group(1), call.group(2), call.group(3));
            } else {
                C.due("a line that names its answer: " + line, true, line.startsWith("//"));
            }
        }
    }

    private void ask(String line, String name, String told, String answer) throws IllegalAccessException {
        shown.add(name);
        String[] words = told.isEmpty() ? new String[0] : told.split(", ");
        for (Method m : LeftArguments.class.getDeclaredMethods()) {
            if (m.getName().equals(name) && m.getParameterCount() == words.length) {
                compare(line, answer, m, valuesOf(words, m.getParameterTypes()));
                return;
            }
        }
        C.due("there is such a call: " + line, true, false);
    }

    private void compare(String line, String answer, Method m, Object[] values) throws IllegalAccessException {
        boolean throwing = answer.startsWith("throws ");
        try {
            Object got = m.invoke(x, values);
            C.due(line + " answers, and does not throw", false, throwing);
            if (got instanceof Boolean) {
                C.due(line, answer, got.toString());
            } else if (!throwing) {
                C.due(line, numberOf(answer), (Integer) got);
            }
        } catch (InvocationTargetException e) {
            C.due(line, answer, "throws " + e.getCause().getClass().getSimpleName());
        }
    }

    private static Object[] valuesOf(String[] words, Class<?>[] types) {
        Object[] values = new Object[words.length];
        for (int i = 0; i < words.length; i++) {
            if (types[i] == boolean.class) {
                values[i] = words[i].equals("true");
            } else if (types[i] == long.class) {
                values[i] = Long.decode(words[i].replace("L", ""));
            } else {
                values[i] = (int) numberOf(words[i].replace("LeftArguments.", ""));
            }
        }
        return values;
    }

    private static long numberOf(String word) {
        switch (word) {
            case "NONE": return LeftArguments.NONE;
            case "HIDDEN": return LeftArguments.HIDDEN;
            default: return Long.decode(word);
        }
    }
}
