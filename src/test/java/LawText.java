import java.util.ArrayList;
import java.util.HashMap;
import java.util.LinkedHashSet;
import java.util.List;
import java.util.Map;
import java.util.Set;

/**
 * The fault of a law by Earley's way over the document's grammar (a byte is wrong when nothing can go on with it),
 * and its worth by cutting its text in pieces.
 */
final class LawText {
    private static final Map<String, List<String[]>> GRAMMAR = grammar();

    private record Item(String left, String[] right, int dot, int start) {
    }

    private LawText() {
    }

    private static void rule(Map<String, List<String[]>> g, String left, String right) {
        g.computeIfAbsent(left, k -> new ArrayList<>()).add(right.isEmpty() ? new String[0] : right.split(" "));
    }

    // A symbol of one sign is itself, '_' a blank; others are names; a name's number is how many of ( [ ! it is within.
    private static Map<String, List<String[]>> grammar() {
        Map<String, List<String[]>> g = new HashMap<>();
        rule(g, "LAW", "BL CLAUSE");
        rule(g, "LAW", "LAW ; BL CLAUSE");
        rule(g, "CLAUSE", "y BL : BL COND0 ? BL SUM0");
        rule(g, "CLAUSE", "y BL : BL SUM0");
        rule(g, "BL", "");
        rule(g, "BL", "BL _");
        for (int d = 0; d <= 6; d++) {
            rule(g, "COND" + d, "TRUTH" + d);
            rule(g, "COND" + d, "COND" + d + " | BL TRUTH" + d);
            rule(g, "TRUTH" + d, "UNIT" + d);
            rule(g, "TRUTH" + d, "TRUTH" + d + " & BL UNIT" + d);
            for (String compare : new String[] {"=", "<", ">"}) {
                rule(g, "UNIT" + d, "SUM" + d + " " + compare + " BL SUM" + d);
            }
            rule(g, "SUM" + d, "TERM" + d);
            rule(g, "SUM" + d, "SUM" + d + " + BL TERM" + d);
            rule(g, "SUM" + d, "SUM" + d + " - BL TERM" + d);
            rule(g, "TERM" + d, "ATOM" + d);
            rule(g, "TERM" + d, "TERM" + d + " * BL ATOM" + d);
            rule(g, "TERM" + d, "TERM" + d + " / BL ATOM" + d);
            rule(g, "ATOM" + d, "NUMBER BL");
            for (String letter : "z a o n d t".split(" ")) {
                rule(g, "ATOM" + d, letter + " BL");
            }
            if (d < 6) {
                rule(g, "UNIT" + d, "! BL UNIT" + (d + 1));
                rule(g, "UNIT" + d, "( BL COND" + (d + 1) + " ) BL");
                rule(g, "ATOM" + d, "[ BL SUM" + (d + 1) + " ] BL");
            }
        }
        rule(g, "NUMBER", "DIGIT");
        rule(g, "NUMBER", "DIGIT DIGIT");
        rule(g, "NUMBER", "DIGIT DIGIT DIGIT");
        rule(g, "NUMBER", "DIGIT DIGIT DIGIT DIGIT");
        for (char digit = '0'; digit <= '9'; digit++) {
            rule(g, "DIGIT", "" + digit);
        }
        return g;
    }

    private static boolean matches(String symbol, char sign) {
        return symbol.equals("_") ? sign == ' ' : symbol.length() == 1 && symbol.charAt(0) == sign;
    }

    static int fault(String tape) {
        List<Set<Item>> sets = new ArrayList<>();
        sets.add(new LinkedHashSet<>());
        for (String[] right : GRAMMAR.get("LAW")) {
            sets.get(0).add(new Item("LAW", right, 0, 0));
        }
        close(sets, 0);
        for (int at = 0; at < tape.length(); at++) {
            Set<Item> next = new LinkedHashSet<>();
            for (Item item : sets.get(at)) {
                if (item.dot < item.right.length && matches(item.right[item.dot], tape.charAt(at))) {
                    next.add(new Item(item.left, item.right, item.dot + 1, item.start));
                }
            }
            if (next.isEmpty()) {
                return at;
            }
            sets.add(next);
            close(sets, at + 1);
        }
        for (Item item : sets.get(tape.length())) {
            if (item.left.equals("LAW") && item.start == 0 && item.dot == item.right.length) {
                return -1;
            }
        }
        return tape.length();
    }

    private static void close(List<Set<Item>> sets, int at) {
        Set<Item> set = sets.get(at);
        List<Item> work = new ArrayList<>(set);
        for (int i = 0; i < work.size(); i++) {
            Item item = work.get(i);
            List<Item> more = new ArrayList<>();
            if (item.dot == item.right.length) {
                for (Item from : new ArrayList<>(sets.get(item.start))) {
                    if (from.dot < from.right.length && from.right[from.dot].equals(item.left)) {
                        more.add(new Item(from.left, from.right, from.dot + 1, from.start));
                    }
                }
            } else if (GRAMMAR.containsKey(item.right[item.dot])) {
                for (String[] right : GRAMMAR.get(item.right[item.dot])) {
                    more.add(new Item(item.right[item.dot], right, 0, at));
                }
                // The one name that may be empty.
                if (item.right[item.dot].equals("BL")) {
                    more.add(new Item(item.left, item.right, item.dot + 1, item.start));
                }
            }
            for (Item m : more) {
                if (set.add(m)) {
                    work.add(m);
                }
            }
        }
    }

    /** Worth of a law without blanks and without fault; letters in the order z a o n d t. */
    static int worth(String law, int[] letters) {
        for (String clause : law.split(";")) {
            String body = clause.substring(2);
            int mark = body.indexOf('?');
            if (mark < 0 || holds(body.substring(0, mark), letters)) {
                return (int) sum(body.substring(mark + 1), letters);
            }
        }
        return 0;
    }

    /** Where the last of these signs stands outside brackets, or -1. */
    private static int lastOf(String text, String signs) {
        int depth = 0;
        for (int i = text.length() - 1; i >= 0; i--) {
            char c = text.charAt(i);
            depth += c == ')' || c == ']' ? 1 : c == '(' || c == '[' ? -1 : 0;
            if (depth == 0 && signs.indexOf(c) >= 0) {
                return i;
            }
        }
        return -1;
    }

    private static boolean holds(String text, int[] letters) {
        int at = lastOf(text, "|");
        if (at >= 0) {
            return holds(text.substring(0, at), letters) || holds(text.substring(at + 1), letters);
        }
        at = lastOf(text, "&");
        if (at >= 0) {
            return holds(text.substring(0, at), letters) && holds(text.substring(at + 1), letters);
        }
        if (text.charAt(0) == '!') {
            return !holds(text.substring(1), letters);
        }
        if (text.charAt(0) == '(') {
            return holds(text.substring(1, text.length() - 1), letters);
        }
        at = lastOf(text, "=<>");
        long left = sum(text.substring(0, at), letters);
        long right = sum(text.substring(at + 1), letters);
        return text.charAt(at) == '=' ? left == right : text.charAt(at) == '<' ? left < right : left > right;
    }

    private static long sum(String text, int[] letters) {
        int at = lastOf(text, "+-");
        at = at >= 0 ? at : lastOf(text, "*/");
        if (at >= 0) {
            long left = sum(text.substring(0, at), letters);
            long right = sum(text.substring(at + 1), letters);
            char sign = text.charAt(at);
            long value = sign == '+' ? left + right : sign == '-' ? left - right : sign == '*' ? left * right
                    : right == 0 ? 0 : left / right;
            return Math.max(-1000000, Math.min(1000000, value));
        }
        if (text.charAt(0) == '[') {
            return sum(text.substring(1, text.length() - 1), letters);
        }
        int letter = "zaondt".indexOf(text.charAt(0));
        return letter >= 0 ? letters[letter] : Long.parseLong(text);
    }
}
