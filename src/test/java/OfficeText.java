import java.util.regex.Matcher;
import java.util.regex.Pattern;

/** The fault of an office, found with patterns: one a clause, one an item. */
final class OfficeText {
    private static final Pattern ITEM = Pattern.compile("\\G *([a-z]) *([0-9]{1,2})(?![0-9])");

    private OfficeText() {
    }

    /** What a clause without blanks tells by a letter. */
    static int item(String clause, char letter, int usual) {
        int at = clause.indexOf(letter, 1);
        return at < 0 ? usual : Integer.parseInt(clause.substring(at + 1).split("[a-z]")[0]);
    }

    static int fault(String tape) {
        int from = 0;
        String clauses = "";
        int shelves = 3;
        int highest = 0;
        while (true) {
            int start = skip(tape, from);
            char kind = sign(tape, start);
            boolean may = kind == 's' ? clauses.indexOf('s') < 0
                    : kind == 'b' && clauses.chars().filter(c -> c == 'b').count() < 8;
            if (!may) {
                return start;
            }
            clauses += kind;
            from = start + 1;
            String letters = kind == 's' ? "wnfk" : "zachl";
            while (skip(tape, from) < tape.length() && sign(tape, skip(tape, from)) != ';') {
                int where = skip(tape, from);
                int which = letters.indexOf(sign(tape, where));
                if (which < 0) {
                    return where;
                }
                Matcher m = ITEM.matcher(tape);
                if (!m.find(from)) {
                    return badNumber(tape, where + 1);
                }
                int number = Integer.parseInt(m.group(2));
                int[][] bounds = kind == 's' ? new int[][] {{1, 60}, {1, 5}, {0, 9}, {0, 99}}
                        : new int[][] {{1, 30}, {0, 9}, {0, 9}, {0, 4}, {0, 1}};
                int row = kind == 's' ? "wnfk".indexOf(m.group(1)) : "zachl".indexOf(m.group(1));
                if (number < bounds[row][0] || number > bounds[row][1]) {
                    return m.end() - 1;
                }
                shelves = m.group(1).equals("n") ? number : shelves;
                highest = m.group(1).equals("h") ? Math.max(highest, number) : highest;
                letters = letters.replace(m.group(1), "\u0001");
                from = m.end();
            }
            from = skip(tape, from);
            if (from >= tape.length()) {
                return clauses.indexOf('b') >= 0 && highest >= shelves ? tape.length() : -1;
            }
            from++;
        }
    }

    private static int badNumber(String tape, int from) {
        int at = skip(tape, from);
        return Character.isDigit(sign(tape, at)) ? at + 2 : at;
    }

    private static int skip(String tape, int from) {
        int at = from;
        while (sign(tape, at) == ' ') {
            at++;
        }
        return at;
    }

    private static char sign(String tape, int at) {
        return at < tape.length() ? tape.charAt(at) : '\0';
    }
}
