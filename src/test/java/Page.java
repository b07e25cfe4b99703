import java.io.IOException;
import java.lang.reflect.InvocationTargetException;
import java.lang.reflect.Method;
import java.nio.file.Files;
import java.nio.file.Path;
import java.util.ArrayList;
import java.util.List;
import java.util.Set;
import java.util.TreeSet;
import java.util.regex.Matcher;
import java.util.regex.Pattern;

/** A page that shows calls in pieces of Java, each with its answer behind it: plays them in their order. */
final class Page {
    private static final String ANSWER = "\\s+// (throws [A-Za-z]+|[A-Z]+|true|false|-?\\d+)(?:[:;,.] .*)?";
    private static final Pattern FEEDING = Pattern.compile("feed\\(x, \"([^\"]*)\"\\);" + ANSWER);
    private static final Pattern FAULT = Pattern.compile("faultOf\\(\"([^\"]*)\", ([01])\\);" + ANSWER);
    private static final Pattern GROWTH = Pattern.compile("growthBy\\(\"([^\"]*)\"\\);" + ANSWER);
    private static final Pattern CALL = Pattern.compile("x\\.([a-z]+)\\(([^()]*)\\);" + ANSWER);

    private final Checks checks;
    private final Path path;
    private final Set<String> shown = new TreeSet<>();
    private LeftArguments x = null;

    Page(Checks checks, String path) {
        this.checks = checks;
        this.path = Path.of(path);
    }

    /** Names of the calls that were played. */
    Set<String> shown() {
        return shown;
    }

    /** The lines of each piece of Java on the page, without those that are empty. */
    List<List<String>> blocks() throws IOException {
        List<List<String>> blocks = new ArrayList<>();
        boolean within = false;
        for (String line : Files.readAllLines(path)) {
            if (line.equals("```java")) {
                within = true;
                blocks.add(new ArrayList<>());
            } else if (line.startsWith("```")) {
                within = false;
            } else if (within && !line.isBlank()) {
                blocks.get(blocks.size() - 1).add(line.strip());
            }
        }
        checks.due(path + " shows Java", true, !blocks.isEmpty());
        return blocks;
    }

    void play(List<String> block) throws IllegalAccessException {
        for (String line : block) {
            Matcher feeding = FEEDING.matcher(line);
            Matcher fault = FAULT.matcher(line);
            Matcher growth = GROWTH.matcher(line);
            Matcher call = CALL.matcher(line);
            if (line.equals("LeftArguments x = new LeftArguments();")) {
                x = new LeftArguments();
            } else if (feeding.matches()) {
                checks.due(line, numberOf(feeding.group(2)), Checks.feed(x, feeding.group(1)));
            } else if (fault.matches()) {
                checks.due(line, numberOf(fault.group(3)),
                        Checks.faultOf(fault.group(1), (int) numberOf(fault.group(2))));
            } else if (growth.matches()) {
                checks.due(line, numberOf(growth.group(2)),
                        Checks.officeWithLaw("bz8a7c2", growth.group(1)).bag(0, 7));
            } else if (call.matches()) {
                ask(line, call.group(1), call.group(2), call.group(3));
            } else {
                checks.due("a line that names its answer: " + line, true, line.startsWith("//"));
            }
        }
    }

    private void ask(String line, String name, String told, String answer) throws IllegalAccessException {
        shown.add(name);
        String[] words = told.isEmpty() ? new String[0] : told.split(", ");
        for (Method m : LeftArguments.class.getDeclaredMethods()) {
            if (m.getName().equals(name) && m.getParameterCount() == words.length) {
                compare(line, answer, m, valuesOf(words, m.getParameterTypes()));
                return;
            }
        }
        checks.due("there is such a call: " + line, true, false);
    }

    private void compare(String line, String answer, Method m, Object[] values) throws IllegalAccessException {
        boolean throwing = answer.startsWith("throws ");
        try {
            Object got = m.invoke(x, values);
            checks.due(line + " answers, and does not throw", false, throwing);
            if (got instanceof Boolean) {
                checks.due(line, answer, got.toString());
            } else if (!throwing) {
                checks.due(line, numberOf(answer), (Integer) got);
            }
        } catch (InvocationTargetException e) {
            checks.due(line, answer, "throws " + e.getCause().getClass().getSimpleName());
        }
    }

    private static Object[] valuesOf(String[] words, Class<?>[] types) {
        Object[] values = new Object[words.length];
        for (int i = 0; i < words.length; i++) {
            if (types[i] == boolean.class) {
                values[i] = words[i].equals("true");
            } else if (types[i] == long.class) {
                values[i] = Long.decode(words[i].replace("L", ""));
            } else {
                values[i] = (int) numberOf(words[i].replace("LeftArguments.", ""));
            }
        }
        return values;
    }

    private static long numberOf(String word) {
        switch (word) {
            case "NONE": return LeftArguments.NONE;
            case "HIDDEN": return LeftArguments.HIDDEN;
            default: return Long.decode(word);
        }
    }
}
