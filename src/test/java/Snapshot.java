import java.util.ArrayList;
import java.util.List;
import java.util.NoSuchElementException;

/** All that can be asked of an object, as rows of "question: answer"; each view by itself keeps below 512 calls. */
final class Snapshot {
    private Snapshot() {
    }

    /** All but status, as it is now. */
    static List<String> now(LeftArguments x) {
        List<String> rows = new ArrayList<>();
        for (int what = 0; what < 10; what++) {
            rows.add("count(" + what + "): " + x.count(what));
        }
        for (int what = 0; what < 4; what++) {
            rows.add("rule(" + what + "): " + x.rule(what));
        }
        for (int what = 0; what < 13; what++) {
            rows.add("most(" + what + "): " + x.most(what));
        }
        for (int shelf = 0; shelf < 10; shelf++) {
            rows.add("load(" + shelf + "): " + x.load(shelf));
        }
        rows.addAll(bags(x));
        rows.addAll(log(x));
        return rows;
    }

    static List<String> bags(LeftArguments x) {
        List<String> rows = new ArrayList<>();
        for (int at = 0; at < 8; at++) {
            for (int what = 0; what < 8; what++) {
                rows.add("bag(" + at + ", " + what + "): " + bag(x, at, what));
            }
        }
        return rows;
    }

    private static String bag(LeftArguments x, int at, int what) {
        try {
            return "" + x.bag(at, what);
        } catch (NoSuchElementException e) {
            return "none";
        }
    }

    static List<String> log(LeftArguments x) {
        List<String> rows = new ArrayList<>();
        for (int i = 0; i < x.count(8); i++) {
            rows.add("log " + i + ": " + x.log(i, 0) + " " + x.log(i, 1) + " " + x.log(i, 2));
        }
        return rows;
    }

    /** What comes back by undoing, act by act, and how all is then. */
    static List<String> undone(LeftArguments x) {
        List<String> rows = new ArrayList<>();
        for (int i = 0; i <= 40; i++) {
            rows.add("undo: " + x.undo() + ", day " + x.count(5) + ", coins " + x.rule(3) + ", bags " + x.most(5));
        }
        rows.addAll(now(x));
        return rows;
    }

    /** What the image keeps. */
    static List<String> behindBack(LeftArguments x) {
        List<String> rows = new ArrayList<>();
        rows.add("back: " + x.back());
        rows.addAll(now(x));
        return rows;
    }

    /** The tape by the faults of its beginnings, the laws by what bags grow by, what was seen by what fits it. */
    static List<String> texts(LeftArguments x) {
        List<String> rows = new ArrayList<>();
        int length = x.count(3);
        for (int n = length; n >= 0; n -= Math.max(1, length / 40)) {
            rows.add("tape " + n + ": " + x.end(n) + " " + x.fault(0) + " " + x.fault(1));
        }
        for (int law = 3; law >= -1; law--) {
            rows.add("law " + law + ": " + x.law(law) + " " + x.most(3) + " " + x.most(5));
            for (int at = 0; at < 8; at++) {
                rows.add("growth of " + at + ": " + bag(x, at, 7));
            }
        }
        for (int told = 0; told < x.count(0); told++) {
            rows.add("told " + told + ": " + x.sizes(told, -1) + " " + x.sizes(told, 0) + " " + x.ask(told, 1) + " "
                    + x.ask(told, 9));
        }
        return rows;
    }

    static int[] status(LeftArguments x) {
        int[] status = new int[5];
        for (int what = 0; what < 5; what++) {
            status[what] = x.status(what);
        }
        return status;
    }
}
