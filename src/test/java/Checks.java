import java.nio.charset.StandardCharsets;
import java.util.NoSuchElementException;

/** Counts what is not as due, and hands texts to the tape. */
final class Checks {
    private int wrong = 0;
    private int asked = 0;

    void due(String what, long want, long got) {
        asked++;
        if (got != want) {
            wrong++;
            System.out.println(what + " answered " + got + ", due is " + want);
        }
    }

    void due(String what, String want, String got) {
        asked++;
        if (!got.equals(want)) {
            wrong++;
            System.out.println(what + " answered " + got + ", due is " + want);
        }
    }

    void due(String what, boolean want, boolean got) {
        due(what, want ? 1 : 0, got ? 1 : 0);
    }

    /** bag throws NoSuchElementException, and nothing else. */
    void noBag(LeftArguments x, int at, int what) {
        boolean thrown = false;
        try {
            x.bag(at, what);
        } catch (NoSuchElementException e) {
            thrown = true;
        }
        due("bag(" + at + ", " + what + ") throws", true, thrown);
    }

    void bags(LeftArguments x, int what, int... want) {
        for (int at = 0; at < want.length; at++) {
            due("bag(" + at + ", " + what + ")", want[at], x.bag(at, what));
        }
    }

    void finish(String name) {
        System.out.println(name + ": " + asked + " answers, " + wrong + " not as due");
        if (wrong != 0) {
            System.exit(1);
        }
    }

    /** Feeds the text, twenty bytes a call; the last answer of feed. */
    static int feed(LeftArguments x, String text) {
        byte[] bytes = text.getBytes(StandardCharsets.ISO_8859_1);
        int answer = x.feed(0, 0, 0, 0, 0);
        for (int from = 0; from < bytes.length; from += 20) {
            int[] words = new int[5];
            for (int i = 0; i < 20 && from + i < bytes.length; i++) {
                words[i / 4] |= (bytes[from + i] & 255) << (24 - 8 * (i % 4));
            }
            answer = x.feed(words[0], words[1], words[2], words[3], words[4]);
        }
        return answer;
    }

    static int faultOf(String text, int sort) {
        LeftArguments x = new LeftArguments();
        feed(x, text);
        return x.fault(sort);
    }

    static LeftArguments office(String text) {
        LeftArguments x = new LeftArguments();
        tell(x, text, 0);
        return x;
    }

    static int tell(LeftArguments x, String text, int sort) {
        feed(x, text);
        return x.text(sort);
    }

    /** An office whose first law holds. */
    static LeftArguments officeWithLaw(String text, String law) {
        LeftArguments x = office(text);
        x.law(tell(x, law, 1));
        return x;
    }
}
