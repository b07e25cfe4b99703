import java.util.Random;

/** Draws texts: offices and laws without fault, and such as were spoiled. */
final class Texts {
    private Texts() {
    }

    private static String blanks(Random r) {
        return r.nextInt(12) == 0 ? " ".repeat(1 + r.nextInt(2)) : "";
    }

    private static String item(Random r, char letter, int least, int most) {
        int number = least + r.nextInt(most - least + 1);
        String zero = number < 10 && r.nextInt(10) == 0 ? "0" : "";
        return r.nextInt(3) == 0 ? "" : blanks(r) + letter + blanks(r) + zero + number;
    }

    static String office(Random r) {
        int shelves = 1 + r.nextInt(5);
        int wide = r.nextInt(3) == 0 ? 1 + r.nextInt(60) : 5 + r.nextInt(30);
        String rules = blanks(r) + "s" + item(r, 'f', 0, 9) + "n" + shelves + item(r, 'w', wide, wide) + item(r, 'k', 0, 99);
        int bags = r.nextInt(9);
        int rulesAt = r.nextInt(bags + 1);
        StringBuilder text = new StringBuilder();
        for (int i = 0; i <= bags; i++) {
            String clause = rules;
            if (i != rulesAt) {
                clause = blanks(r) + "b" + item(r, 'h', 0, r.nextInt(40) == 0 ? 4 : shelves - 1)
                        + item(r, 'z', 1, r.nextBoolean() ? 30 : 8) + item(r, 'c', 0, 9) + item(r, 'l', 0, 1)
                        + item(r, 'a', 0, 9);
            }
            text.append(i > 0 ? ";" : "").append(clause).append(blanks(r));
        }
        return text.length() > 240 ? "b;sn" + shelves : text.toString();
    }

    static String law(Random r) {
        String text;
        do {
            StringBuilder clauses = new StringBuilder();
            for (int i = r.nextInt(3); i >= 0; i--) {
                clauses.append(blanks(r)).append("y").append(blanks(r)).append(":");
                if (r.nextInt(3) > 0) {
                    clauses.append(condition(r, 0)).append("?");
                }
                clauses.append(sum(r, 0)).append(i > 0 ? ";" : "");
            }
            text = clauses.toString();
        } while (text.length() > 240);
        return text;
    }

    private static String condition(Random r, int depth) {
        String text = truth(r, depth);
        return r.nextInt(4) == 0 ? text + "|" + condition(r, depth) : text;
    }

    private static String truth(Random r, int depth) {
        String text = blanks(r) + unit(r, depth) + blanks(r);
        return r.nextInt(4) == 0 ? text + "&" + truth(r, depth) : text;
    }

    private static String unit(Random r, int depth) {
        // Now and then too deep, so that the bound is met.
        boolean may = depth < 6 || r.nextInt(20) == 0;
        if (may && r.nextInt(3) == 0) {
            return "!" + blanks(r) + unit(r, depth + 1);
        }
        if (may && r.nextInt(3) == 0) {
            return "(" + condition(r, depth + 1) + ")";
        }
        return sum(r, depth) + "=<>".charAt(r.nextInt(3)) + sum(r, depth);
    }

    private static String sum(Random r, int depth) {
        String text = term(r, depth);
        return r.nextInt(3) == 0 ? text + "+-".charAt(r.nextInt(2)) + sum(r, depth) : text;
    }

    private static String term(Random r, int depth) {
        String text = blanks(r) + atom(r, depth) + blanks(r);
        return r.nextInt(4) == 0 ? text + "*/".charAt(r.nextInt(2)) + term(r, depth) : text;
    }

    private static String atom(Random r, int depth) {
        int kind = r.nextInt(6);
        if (kind == 0 && (depth < 6 || r.nextInt(20) == 0)) {
            return "[" + sum(r, depth + 1) + "]";
        }
        if (kind < 3) {
            return "" + r.nextInt(r.nextInt(6) == 0 ? 10000 : 12);
        }
        return "" + "zaondt".charAt(r.nextInt(6));
    }

    /** A sign put in, taken out or changed, or the end cut off. */
    static String spoiled(Random r, String text) {
        if (text.isEmpty() || text.length() > 230) {
            return text;
        }
        String signs = "sbwnfkzachl0123456789;y:?!()[]|&=<>+-*/oldt x" + (char) 200 + "\t";
        String spoiled = text;
        for (int i = r.nextInt(2); i >= 0 && !spoiled.isEmpty(); i--) {
            int at = r.nextInt(spoiled.length());
            String sign = "" + signs.charAt(r.nextInt(signs.length()));
            switch (r.nextInt(4)) {
                case 0:
                    spoiled = spoiled.substring(0, at) + sign + spoiled.substring(at);
                    break;
                case 1:
                    spoiled = spoiled.substring(0, at) + spoiled.substring(at + 1);
                    break;
                case 2:
                    spoiled = spoiled.substring(0, at) + sign + spoiled.substring(at + 1);
                    break;
                default:
                    spoiled = spoiled.substring(0, at);
                    break;
            }
        }
        return spoiled;
    }
}
