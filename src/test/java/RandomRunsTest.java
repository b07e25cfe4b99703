import java.nio.charset.StandardCharsets;
import java.util.NoSuchElementException;
import java.util.Random;

/** Long runs of calls by fixed seeds: the class answers as the plain model does, and never throws by itself. */
public final class RandomRunsTest {
    private static final long THROWN = Long.MIN_VALUE;

    private final Random random;
    private LeftArguments x = new LeftArguments();
    private Model m = new Model();
    private final StringBuilder run = new StringBuilder();
    private static int wrong = 0;
    private static long asked = 0;

    private RandomRunsTest(long seed) {
        random = new Random(seed);
    }

    public static void main(String[] args) {
        int runs = args.length > 0 ? Integer.parseInt(args[0]) : 400;
        int from = args.length > 1 ? Integer.parseInt(args[1]) : 0;
        for (int seed = from; seed < from + runs && wrong < 5; seed++) {
            new RandomRunsTest(seed).play(seed);
        }
        System.out.println("RandomRunsTest: " + asked + " answers, " + wrong + " not as due");
        if (wrong != 0) {
            System.exit(1);
        }
    }

    private boolean same(String call, long got, long want) {
        asked++;
        run.append(call).append(" = ").append(want).append('\n');
        if (got == want) {
            return true;
        }
        wrong++;
        System.out.println(run + "answered " + got + "\n----");
        return false;
    }

    private void play(long seed) {
        run.append("seed ").append(seed).append('\n');
        boolean good = true;
        if (random.nextInt(4) > 0) {
            for (int i = random.nextInt(3); i > 0; i--) {
                good &= tell(Texts.law(random), 1);
            }
            good &= tell(Texts.office(random), 0);
        }
        for (int i = 0; i < 400 && good; i++) {
            int kind = random.nextInt(100);
            if (kind < 5) {
                good = textCall();
            } else if (kind < 45) {
                good = act();
            } else {
                good = look();
            }
        }
    }

    private boolean feed(String text) {
        byte[] bytes = text.getBytes(StandardCharsets.ISO_8859_1);
        boolean good = true;
        for (int from = 0; from < bytes.length; from += 20) {
            int[] w = new int[5];
            for (int i = 0; i < 20 && from + i < bytes.length; i++) {
                w[i / 4] |= (bytes[from + i] & 255) << (24 - 8 * (i % 4));
            }
            good &= same("feed " + text.substring(from, Math.min(text.length(), from + 20)),
                    x.feed(w[0], w[1], w[2], w[3], w[4]), m.feed(w));
        }
        return good;
    }

    private boolean tell(String text, int sort) {
        boolean good = same("end(0)", x.end(0) ? 1 : 0, m.end(0) ? 1 : 0) && feed(text);
        good = good && same("fault(" + sort + ")", x.fault(sort), m.fault(sort));
        return good && same("text(" + sort + ")", x.text(sort), m.text(sort));
    }

    private boolean textCall() {
        switch (random.nextInt(8)) {
            case 0: return tell(Texts.office(random), 0);
            case 1: return tell(Texts.law(random), 1);
            case 2: return tell(Texts.spoiled(random, Texts.office(random)), 0);
            case 3: return tell(Texts.spoiled(random, Texts.law(random)), 1);
            case 4: {
                int n = random.nextInt(250) - 5;
                return same("end(" + n + ")", x.end(n) ? 1 : 0, m.end(n) ? 1 : 0);
            }
            case 5: {
                int sort = random.nextInt(4) - 1;
                return same("fault(" + sort + ")", x.fault(sort), m.fault(sort));
            }
            case 6: return feed(Texts.law(random));
            default: {
                int sort = random.nextInt(4) - 1;
                return same("text(" + sort + ")", x.text(sort), m.text(sort));
            }
        }
    }

    /** A number within the bounds or, now and then, beside them or far off. */
    private int some(int least, int most) {
        int kind = random.nextInt(40);
        if (kind == 0) {
            return least - 1;
        }
        if (kind == 1) {
            return most + 1;
        }
        if (kind == 2) {
            return random.nextInt(4) == 0 ? random.nextInt() : random.nextBoolean() ? least : most;
        }
        return least + random.nextInt(most - least + 1);
    }

    private int shelf() {
        return random.nextInt(5) == 0 ? 9 : some(0, 4);
    }

    private boolean act() {
        int a = some(0, 7);
        switch (random.nextInt(16)) {
            case 0:
            case 1: {
                int n = random.nextInt(3) == 0 ? some(1, 60) : 1 + random.nextInt(4);
                return same("days(" + n + ")", x.days(n), m.days(n));
            }
            case 2:
            case 3:
            case 4:
            case 5: {
                int size = random.nextInt(3) == 0 ? some(1, 30) : some(1, 9);
                int one = some(0, 9);
                int other = some(0, 9);
                int shelf = shelf();
                return same("leave(" + size + ", " + one + ", " + other + ", " + shelf + ")",
                        x.leave(size, one, other, shelf), m.leave(size, one, other, shelf));
            }
            case 6: return same("call(" + a + ")", x.call(a), m.call(a));
            case 7:
            case 8: {
                int shelf = shelf();
                return same("move(" + a + ", " + shelf + ")", x.move(a, shelf), m.move(a, shelf));
            }
            case 9:
            case 10: return same("hush(" + a + ")", x.hush(a), m.hush(a));
            case 11: return same("sell(" + a + ")", x.sell(a), m.sell(a));
            case 12: {
                int n = some(1, 50);
                return same("give(" + n + ")", x.give(n), m.give(n));
            }
            case 13: {
                int v = some(0, 9);
                return same("trains(" + v + ")", x.trains(v) ? 1 : 0, m.trains(v) ? 1 : 0);
            }
            case 14: {
                int n = random.nextInt(3) == 0 ? some(1, 60) : 1 + random.nextInt(4);
                long s = random.nextLong();
                return same("years(" + n + ", " + s + ")", x.years(n, s), m.years(n, s));
            }
            default: return turnBack();
        }
    }

    private boolean turnBack() {
        switch (random.nextInt(6)) {
            case 0: return same("image()", x.image(), m.image());
            case 1: return same("back()", x.back(), m.back());
            case 2: {
                int law = random.nextInt(6) - 2;
                return same("law(" + law + ")", x.law(law) ? 1 : 0, m.law(law) ? 1 : 0);
            }
            default: {
                boolean good = true;
                for (int i = random.nextInt(5) == 0 ? 45 : 1 + random.nextInt(3); i > 0 && good; i--) {
                    good = same("undo()", x.undo(), m.undo());
                }
                return good;
            }
        }
    }

    private static long bagOf(LeftArguments x, int at, int what) {
        try {
            return x.bag(at, what);
        } catch (NoSuchElementException e) {
            return THROWN;
        }
    }

    private static long bagOf(Model m, int at, int what) {
        try {
            return m.bag(at, what);
        } catch (NoSuchElementException e) {
            return THROWN;
        }
    }

    private boolean look() {
        int a = some(0, 7);
        int w = some(0, 1);
        switch (random.nextInt(25)) {
            case 0:
            case 1:
            case 2: {
                int what = some(0, 7);
                return same("bag(" + a + ", " + what + ")", bagOf(x, a, what), bagOf(m, a, what));
            }
            case 3: {
                int what = some(0, 3);
                return same("rule(" + what + ")", x.rule(what), m.rule(what));
            }
            case 4: {
                int shelf = shelf();
                return same("load(" + shelf + ")", x.load(shelf), m.load(shelf));
            }
            case 5: {
                int what = some(0, 4);
                return same("status(" + what + ")", x.status(what), m.status(what));
            }
            case 6: {
                int i = random.nextInt(3) == 0 ? some(0, 59) : some(0, 3);
                int what = some(0, 2);
                return same("log(" + i + ", " + what + ")", x.log(i, what), m.log(i, what));
            }
            case 7: {
                int n = some(0, 99);
                return same("large(" + a + ", " + n + ")", x.large(a, n), m.large(a, n));
            }
            case 8: return same("ends(" + a + ")", x.ends(a), m.ends(a));
            case 9: return same("falls(" + a + ")", x.falls(a), m.falls(a));
            case 10: return random.nextInt(4) > 0 || same("shelved(" + w + ")", x.shelved(w), m.shelved(w));
            case 11: {
                int b = some(0, 7);
                return same("sets(" + a + ", " + b + ")", x.sets(a, b), m.sets(a, b));
            }
            case 12: return random.nextInt(4) > 0 || same("apart(" + w + ")", x.apart(w), m.apart(w));
            case 13: return same("roar()", x.roar(), m.roar());
            case 14: {
                int n = some(1, 9);
                int v = random.nextInt(4) == 0 ? some(0, 99) : some(0, 40);
                boolean more = random.nextBoolean();
                int told = some(0, 3);
                return random.nextInt(4) > 0 || same("seen(" + told + ", " + n + ", " + v + ", " + more + ")",
                        x.seen(told, n, v, more), m.seen(told, n, v, more));
            }
            case 15: {
                int told = some(0, 3);
                int i = some(-1, 29);
                return same("sizes(" + told + ", " + i + ")", x.sizes(told, i), m.sizes(told, i));
            }
            case 16: {
                int told = some(0, 3);
                int n = some(1, 9);
                return same("ask(" + told + ", " + n + ")", x.ask(told, n), m.ask(told, n));
            }
            case 17: {
                int c = random.nextInt(3) == 0 ? some(1, 400) : some(1, 90);
                return same("sale(" + c + ")", x.sale(c), m.sale(c));
            }
            case 18: {
                int p = some(0, 3);
                int q = some(0, 3);
                return same("game(" + a + ", " + p + ", " + q + ", " + w + ")", x.game(a, p, q, w), m.game(a, p, q, w));
            }
            case 19: {
                int i = some(-1, 3);
                return same("rests(" + a + ", " + i + ")", x.rests(a, i), m.rests(a, i));
            }
            case 20: {
                int n = some(0, 6);
                int v = random.nextInt(3) == 0 ? some(0, 99) : some(0, 30);
                int chance = some(0, 100);
                return same("odds(" + a + ", " + n + ", " + v + ", " + chance + ")",
                        x.odds(a, n, v, chance), m.odds(a, n, v, chance));
            }
            case 21: {
                int c = some(0, 999);
                return same("shares(" + a + ", " + c + ")", x.shares(a, c), m.shares(a, c));
            }
            case 22:
            case 23: {
                int what = some(0, 12);
                return same("most(" + what + ")", x.most(what), m.most(what));
            }
            default: {
                int what = some(0, 9);
                return same("count(" + what + ")", x.count(what), m.count(what));
            }
        }
    }
}
