import java.io.IOException;
import java.lang.management.ManagementFactory;
import java.lang.reflect.Constructor;
import java.lang.reflect.Field;
import java.lang.reflect.Method;
import java.lang.reflect.Modifier;
import java.nio.file.Files;
import java.nio.file.Path;
import java.util.Arrays;
import java.util.List;
import java.util.Set;
import java.util.TreeSet;

/** The face of the document and those rules of LANGUAGE.md that can be counted. */
public final class LanguageTest {
    private static final Checks C = new Checks();
    private static final Path SOURCE = Path.of("src/main/java/LeftArguments.java");
    private static final String[] FACE = {
        "int feed(int,int,int,int,int)", "boolean end(int)", "int fault(int)", "int text(int)", "int rule(int)",
        "int bag(int,int)", "int load(int)", "boolean law(int)", "int days(int)", "int leave(int,int,int,int)",
        "int call(int)", "int move(int,int)", "int hush(int)", "int sell(int)", "int give(int)", "boolean trains(int)",
        "int years(int,long)", "int status(int)", "int undo()", "int log(int,int)", "int large(int,int)",
        "int ends(int)", "int falls(int)", "int shelved(int)", "int sets(int,int)", "int apart(int)", "int roar()",
        "int seen(int,int,int,boolean)", "int sizes(int,int)", "int ask(int,int)", "int sale(int)",
        "int game(int,int,int,int)", "int rests(int,int)", "int odds(int,int,int,int)", "int shares(int,int)",
        "int most(int)", "int image()", "int back()", "int count(int)"};

    public static void main(String[] args) throws IOException {
        face();
        classesInside();
        words();
        lengthsOfMethods();
        roomOfCalls();
        C.finish("LanguageTest");
    }

    private static String headOf(Method m) {
        StringBuilder head = new StringBuilder(m.getReturnType().getName() + " " + m.getName() + "(");
        for (Class<?> type : m.getParameterTypes()) {
            head.append(head.charAt(head.length() - 1) == '(' ? "" : ",").append(type.getName());
        }
        return head + ")";
    }

    private static void face() {
        Set<String> open = new TreeSet<>();
        Set<String> openNames = new TreeSet<>();
        for (Method m : LeftArguments.class.getDeclaredMethods()) {
            if (Modifier.isPublic(m.getModifiers())) {
                open.add(headOf(m));
                openNames.add(m.getName());
            }
        }
        C.due("the face " + open, true, open.equals(new TreeSet<>(Arrays.asList(FACE))));
        for (Method m : LeftArguments.class.getDeclaredMethods()) {
            boolean fine = Modifier.isPublic(m.getModifiers())
                    || Modifier.isPrivate(m.getModifiers()) && !openNames.contains(m.getName());
            C.due("method " + m.getName(), true, fine);
        }
        for (Field f : LeftArguments.class.getDeclaredFields()) {
            boolean constant = f.getName().equals("NONE") || f.getName().equals("HIDDEN");
            C.due("field " + f.getName(), true, constant == Modifier.isPublic(f.getModifiers())
                    && (constant || Modifier.isPrivate(f.getModifiers())));
        }
        Constructor<?>[] makers = LeftArguments.class.getDeclaredConstructors();
        C.due("constructors", 1, makers.length);
        C.due("public constructor", true, Modifier.isPublic(makers[0].getModifiers()));
        C.due("public final class", Modifier.PUBLIC | Modifier.FINAL, LeftArguments.class.getModifiers());
    }

    private static void classesInside() {
        Class<?>[] inside = LeftArguments.class.getDeclaredClasses();
        C.due("classes are few", true, inside.length < 12);
        Set<String> openNames = new TreeSet<>();
        for (Method m : LeftArguments.class.getMethods()) {
            openNames.add(m.getName());
        }
        fieldsOf(LeftArguments.class);
        for (Class<?> c : inside) {
            C.due(c.getName() + " is static", true, Modifier.isStatic(c.getModifiers()));
            fieldsOf(c);
            for (Method m : c.getDeclaredMethods()) {
                C.due(c.getName() + "." + m.getName() + " bears no name of the face", false,
                        openNames.contains(m.getName()));
                C.due(m.getName() + " takes seven at most", true, m.getParameterCount() <= 7);
            }
        }
    }

    private static void fieldsOf(Class<?> c) {
        int own = 0;
        for (Field f : c.getDeclaredFields()) {
            if (!Modifier.isStatic(f.getModifiers())) {
                own++;
            } else {
                C.due(f.getName() + " is final", true, Modifier.isFinal(f.getModifiers()));
            }
        }
        C.due(c.getName() + " has few fields", true, own <= 20);
    }

    private static void words() throws IOException {
        String source = Files.readString(SOURCE);
        String[] never = {"package ", "->", "::", "catch", "finally", "synchronized", "assert", "try ", "double",
            "float", "Exact(", "System.out", "Random", "currentTime", "nanoTime", "instanceof", "static {", "@",
            "var ", "String.format", "Object", "hashCode", "toString"};
        for (String word : never) {
            C.due("'" + word + "' in the source", false, source.contains(word));
        }
        for (String line : source.split("\n")) {
            if (line.startsWith("import ")) {
                C.due(line, true, List.of("import java.util.Arrays;", "import java.util.NoSuchElementException;")
                        .contains(line));
            }
            if (line.contains("throw ")) {
                C.due(line, true, line.trim().equals("throw new NoSuchElementException();"));
            }
        }
        C.due("signs are plain", true, source.chars().allMatch(c -> c == '\n' || c >= 32 && c < 127));
    }

    private static void lengthsOfMethods() throws IOException {
        int start = -1;
        String[] lines = Files.readString(SOURCE).split("\n");
        for (int i = 0; i < lines.length; i++) {
            if (lines[i].matches(" {4}( {4})?[a-z].*\\) .*\\{") && !lines[i].contains(" class ")) {
                start = i;
            }
            if (start >= 0 && lines[i].matches(" {4}( {4})?\\}")) {
                C.due("lines " + (start + 1) + " to " + (i + 1) + " are sixty at most", true, i - start < 60);
                start = -1;
            }
        }
    }

    /** All calls of a run live in one room: what is made is made in the constructor. */
    private static void roomOfCalls() {
        com.sun.management.ThreadMXBean bean = (com.sun.management.ThreadMXBean) ManagementFactory.getThreadMXBean();
        dearCalls(Checks.office("b"), 2);
        long before = bean.getThreadAllocatedBytes(Thread.currentThread().getId());
        LeftArguments made = new LeftArguments();
        long behind = bean.getThreadAllocatedBytes(Thread.currentThread().getId());
        C.due("a new object is small: " + (behind - before), true, behind - before < 60000);
        C.due("no office", -1, made.image());
        LeftArguments x = Checks.officeWithLaw("sw30n5f9k99;bz30a9c0h4;bz5a5c5h3l1;bz9a0c9h2;bz1a9c9h1;bz12;bz7;bz3;bz2h2",
                "y:!(z<9)&d>2|n=0?0-2;y:a/2");
        before = bean.getThreadAllocatedBytes(Thread.currentThread().getId());
        dearCalls(x, 20);
        behind = bean.getThreadAllocatedBytes(Thread.currentThread().getId());
        C.due("calls make nothing: " + (behind - before), true, behind - before < 20000);
    }

    private static void dearCalls(LeftArguments x, int times) {
        for (int i = 0; i < times; i++) {
            x.feed(0x793a7a00, 0, 0, 0, 0);
            x.fault(0);
            x.fault(1);
            x.end(0);
            x.days(3);
            x.years(3, i);
            x.undo();
            x.image();
            x.back();
            x.large(0, 99);
            x.ends(0);
            x.falls(0);
            x.shelved(0);
            x.apart(0);
            x.roar();
            x.seen(0, 3, 5, true);
            x.sizes(0, 1);
            x.ask(0, 9);
            x.sale(40);
            x.rests(0, -1);
            x.odds(0, 6, 12, 50);
            x.most(12);
            x.log(0, 0);
        }
    }
}
