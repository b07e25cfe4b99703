import java.util.List;
import java.util.NoSuchElementException;
import java.util.function.Function;
import java.util.function.Supplier;
import java.util.function.ToLongFunction;

/**
 * "What is refused answers as told and changes nothing but STATUS.": each refused call on one of two objects that were
 * made alike; then both are asked all that can be asked. The same for calls that only look.
 */
public final class RefusedTest {
    private static final Checks C = new Checks();
    private static final int NO_STATUS = -1;
    private static final long THROWN = Long.MIN_VALUE;
    private static final int LEAST = Integer.MIN_VALUE;
    private static final int MOST = Integer.MAX_VALUE;
    private static final List<Function<LeftArguments, List<String>>> VIEWS =
            List.of(Snapshot::now, Snapshot::undone, Snapshot::behindBack, Snapshot::texts);

    public static void main(String[] args) {
        withoutOffice();
        looksWithoutOffice();
        texts();
        fullTape();
        fourLaws();
        looksOutOfBounds();
        bagsThatAreNotThere();
        days();
        lastDays();
        leave();
        noPlace();
        callAndSell();
        move();
        noCoin();
        hush();
        give();
        trainsAndYears();
        undoAndBack();
        seen();
        apart();
        gameAndOdds();
        allFull();
        allEmpty();
        looks();
        C.finish("RefusedTest");
    }

    private static void refused(String name, Supplier<LeftArguments> state, long answer, int reason,
            ToLongFunction<LeftArguments> call) {
        for (Function<LeftArguments, List<String>> view : VIEWS) {
            LeftArguments left = state.get();
            LeftArguments right = state.get();
            C.due(name, answer, call.applyAsLong(right));
            int[] want = Snapshot.status(left);
            if (reason != NO_STATUS) {
                want[reason]++;
            }
            int[] got = Snapshot.status(right);
            for (int what = 0; what < want.length; what++) {
                C.due("status(" + what + ") behind " + name, want[what], got[what]);
            }
            same(name, view.apply(left), view.apply(right));
        }
    }

    private static void same(String name, List<String> want, List<String> got) {
        C.due("rows behind " + name, want.size(), got.size());
        for (int i = 0; i < want.size() && i < got.size(); i++) {
            C.due(want.get(i) + " is " + got.get(i) + " behind " + name, true, want.get(i).equals(got.get(i)));
        }
    }

    private static long answer(boolean b) {
        return b ? 1 : 0;
    }

    private static long bag(LeftArguments x, int at, int what) {
        try {
            return x.bag(at, what);
        } catch (NoSuchElementException e) {
            return THROWN;
        }
    }

    // ---- how things stand ahead of the refused call

    /** No office, yet a law that holds, something on the tape, trains and a status. */
    private static LeftArguments bare() {
        LeftArguments x = new LeftArguments();
        x.law(Checks.tell(x, "y:z-3", 1));
        x.trains(7);
        x.call(0);
        Checks.feed(x, "bz5x");
        return x;
    }

    /**
     * Day 3, 18 coins, loads 9, 15, 9; places 0 (5 on 0), 1 (3 on 1, hushed), 2 (9 on 2), 3 (12 on 1), 4 (4 on 0, just
     * left); two laws, the first holds; six acts, an image of day 2, two seen, a fault on the tape.
     */
    private static LeftArguments usual() {
        LeftArguments x = Checks.officeWithLaw("sw20n3f4k20;bz5a6c2;bz3a1c9h1l1;bz9h2;bz12h1", "y:0");
        Checks.tell(x, "y:z-3", 1);
        x.days(2);
        x.image();
        x.hush(0);
        x.days(1);
        x.leave(4, 1, 2, 0);
        x.hush(1);
        x.seen(0, 1, 5, true);
        x.seen(3, 2, 4, false);
        x.call(7);
        x.days(0);
        x.trains(3);
        Checks.feed(x, "y:z?");
        return x;
    }

    /** Eight bags, no coin, one of them hushed, one on the floor, six days. */
    private static LeftArguments poor() {
        LeftArguments x = Checks.officeWithLaw("sw20n2k1;bz5;bz3;bz1;bz1;bz1;bz1h1;bz1h1;bz18h1", "y:0");
        x.days(5);
        x.image();
        x.days(1);
        x.move(1, 9);
        x.hush(0);
        return x;
    }

    private static LeftArguments still(String text) {
        return Checks.officeWithLaw(text, "y:0");
    }

    private static LeftArguments onDay(int day) {
        LeftArguments x = Checks.officeWithLaw("sw20f1;bz5;bz3h1", "y:t-50");
        for (int i = 0; i < day / 60; i++) {
            x.days(60);
            x.image();
        }
        x.hush(1);
        x.days(day % 60);
        C.due("day", day, x.count(5));
        return x;
    }

    private static LeftArguments withCoins(int coins) {
        LeftArguments x = Checks.office("sk99;b");
        for (int now = 99; now < coins; now += 50) {
            x.give(Math.min(50, coins - now));
        }
        C.due("coins", coins, x.rule(3));
        return x;
    }

    private static LeftArguments untouched() {
        return Checks.office("sk9;bz5;bh1");
    }

    // ---- each refused call

    private static void withoutOffice() {
        refused("days(1)", RefusedTest::bare, -1, 0, x -> x.days(1));
        refused("days(0)", RefusedTest::bare, -1, 0, x -> x.days(0));
        refused("leave(1, 0, 0, 0)", RefusedTest::bare, -1, 0, x -> x.leave(1, 0, 0, 0));
        refused("leave(0, 0, 0, 9)", RefusedTest::bare, -1, 0, x -> x.leave(0, 0, 0, 9));
        refused("call(0)", RefusedTest::bare, -1, 0, x -> x.call(0));
        refused("move(0, 9)", RefusedTest::bare, -1, 0, x -> x.move(0, 9));
        refused("move(0, 7)", RefusedTest::bare, -1, 0, x -> x.move(0, 7));
        refused("hush(0)", RefusedTest::bare, -1, 0, x -> x.hush(0));
        refused("sell(0)", RefusedTest::bare, -1, 0, x -> x.sell(0));
        refused("give(1)", RefusedTest::bare, -1, 0, x -> x.give(1));
        refused("give(0)", RefusedTest::bare, -1, 0, x -> x.give(0));
        refused("years(1, 1)", RefusedTest::bare, -1, NO_STATUS, x -> x.years(1, 1));
        refused("undo()", RefusedTest::bare, -1, NO_STATUS, LeftArguments::undo);
        refused("image()", RefusedTest::bare, -1, NO_STATUS, LeftArguments::image);
        refused("back()", RefusedTest::bare, -1, NO_STATUS, LeftArguments::back);
        refused("seen(0, 1, 1, true)", RefusedTest::bare, -1, NO_STATUS, x -> x.seen(0, 1, 1, true));
        refused("text(0)", RefusedTest::bare, -1, NO_STATUS, x -> x.text(0));
    }

    private static void looksWithoutOffice() {
        refused("rule(0)", RefusedTest::bare, -1, NO_STATUS, x -> x.rule(0));
        refused("rule(3)", RefusedTest::bare, -1, NO_STATUS, x -> x.rule(3));
        refused("bag(0, 0)", RefusedTest::bare, THROWN, NO_STATUS, x -> bag(x, 0, 0));
        refused("load(0)", RefusedTest::bare, -1, NO_STATUS, x -> x.load(0));
        refused("log(0, 0)", RefusedTest::bare, -1, NO_STATUS, x -> x.log(0, 0));
        refused("large(0, 0)", RefusedTest::bare, -1, NO_STATUS, x -> x.large(0, 0));
        refused("ends(0)", RefusedTest::bare, -1, NO_STATUS, x -> x.ends(0));
        refused("falls(0)", RefusedTest::bare, -1, NO_STATUS, x -> x.falls(0));
        refused("shelved(0)", RefusedTest::bare, -1, NO_STATUS, x -> x.shelved(0));
        refused("shelved(1)", RefusedTest::bare, -1, NO_STATUS, x -> x.shelved(1));
        refused("sets(0, 1)", RefusedTest::bare, -1, NO_STATUS, x -> x.sets(0, 1));
        refused("apart(0)", RefusedTest::bare, -1, NO_STATUS, x -> x.apart(0));
        refused("apart(1)", RefusedTest::bare, -1, NO_STATUS, x -> x.apart(1));
        refused("roar()", RefusedTest::bare, -1, NO_STATUS, LeftArguments::roar);
        refused("sizes(0, -1)", RefusedTest::bare, -1, NO_STATUS, x -> x.sizes(0, -1));
        refused("ask(0, 1)", RefusedTest::bare, -1, NO_STATUS, x -> x.ask(0, 1));
        refused("sale(1)", RefusedTest::bare, -1, NO_STATUS, x -> x.sale(1));
        refused("game(0, 0, 0, 0)", RefusedTest::bare, -1000000, NO_STATUS, x -> x.game(0, 0, 0, 0));
        refused("rests(0, -1)", RefusedTest::bare, -1, NO_STATUS, x -> x.rests(0, -1));
        refused("odds(0, 0, 0, 0)", RefusedTest::bare, -1, NO_STATUS, x -> x.odds(0, 0, 0, 0));
        refused("shares(0, 0)", RefusedTest::bare, -1, NO_STATUS, x -> x.shares(0, 0));
        for (int what = 0; what < 13; what++) {
            int asked = what;
            refused("most(" + what + ")", RefusedTest::bare, -1, NO_STATUS, x -> x.most(asked));
        }
    }

    private static void texts() {
        for (int n : new int[] {-1, 5, LEAST, MOST}) {
            refused("end(" + n + ")", RefusedTest::usual, 0, NO_STATUS, x -> answer(x.end(n)));
            refused("end(" + n + ")", RefusedTest::bare, 0, NO_STATUS, x -> answer(x.end(n)));
        }
        for (int sort : new int[] {-1, 2, LEAST, MOST}) {
            refused("fault(" + sort + ")", RefusedTest::usual, -2, NO_STATUS, x -> x.fault(sort));
            refused("text(" + sort + ")", RefusedTest::usual, -1, NO_STATUS, x -> x.text(sort));
        }
        refused("text(0) with a fault", RefusedTest::usual, -1, NO_STATUS, x -> x.text(0));
        refused("text(1) with a fault", RefusedTest::usual, -1, NO_STATUS, x -> x.text(1));
        refused("text(0) of nothing", RefusedTest::poor, -1, NO_STATUS, x -> x.text(0));
        refused("text(1) of nothing", RefusedTest::poor, -1, NO_STATUS, x -> x.text(1));
        for (int law : new int[] {-2, 2, 3, 4, LEAST, MOST}) {
            refused("law(" + law + ")", RefusedTest::usual, 0, NO_STATUS, x -> answer(x.law(law)));
        }
        refused("law(0) of none", RefusedTest::untouched, 0, NO_STATUS, x -> answer(x.law(0)));
        refused("a bag where no shelf is", RefusedTest::shelfMissing, -1, NO_STATUS, x -> x.text(0));
    }

    private static LeftArguments shelfMissing() {
        LeftArguments x = usual();
        x.end(0);
        Checks.feed(x, "bz9;bh3;sk1");
        return x;
    }

    private static void fullTape() {
        Supplier<LeftArguments> state = () -> {
            LeftArguments x = Checks.office("sk7;bz4");
            Checks.feed(x, "bz1;".repeat(8) + "s" + " ".repeat(203) + "k12");
            C.due("bytes", 239, x.count(3));
            return x;
        };
        refused("two bytes on 239", state, -1, NO_STATUS, x -> x.feed(0, 0, 0, 0, 0x3334));
        refused("twenty bytes on 239", state, -1, NO_STATUS, x -> x.feed(-1, -1, -1, -1, -1));
        refused("a law", state, -1, NO_STATUS, x -> x.text(1));
    }

    private static void fourLaws() {
        Supplier<LeftArguments> state = () -> {
            LeftArguments x = Checks.office("bz4;bz5h1");
            for (int i = 0; i < 4; i++) {
                Checks.tell(x, "y:z-" + i, 1);
            }
            x.law(2);
            Checks.feed(x, "y:8");
            return x;
        };
        refused("a fifth law", state, -1, NO_STATUS, x -> x.text(1));
        refused("law(4)", state, 0, NO_STATUS, x -> answer(x.law(4)));
    }

    private static void looksOutOfBounds() {
        for (int what : new int[] {-1, 4, LEAST, MOST}) {
            refused("rule(" + what + ")", RefusedTest::usual, -1, NO_STATUS, x -> x.rule(what));
        }
        for (int shelf : new int[] {-1, 3, 4, 5, 8, 10, LEAST, MOST}) {
            refused("load(" + shelf + ")", RefusedTest::usual, -1, NO_STATUS, x -> x.load(shelf));
        }
        for (int what : new int[] {-1, 5, LEAST, MOST}) {
            refused("status(" + what + ")", RefusedTest::usual, -1, NO_STATUS, x -> x.status(what));
        }
        for (int[] w : new int[][] {{3, 0}, {-1, 0}, {0, -1}, {0, 3}, {60, 0}, {LEAST, 0}, {MOST, 2}, {0, LEAST}}) {
            refused("log(" + w[0] + ", " + w[1] + ")", RefusedTest::usual, -1, NO_STATUS, x -> x.log(w[0], w[1]));
        }
        for (int what : new int[] {-1, 13, LEAST, MOST}) {
            refused("most(" + what + ")", RefusedTest::usual, -1, NO_STATUS, x -> x.most(what));
        }
        for (int what : new int[] {-1, 10, LEAST, MOST}) {
            refused("count(" + what + ")", RefusedTest::usual, -1000000, NO_STATUS, x -> x.count(what));
            refused("count(" + what + ")", RefusedTest::bare, -1000000, NO_STATUS, x -> x.count(what));
        }
    }

    private static void bagsThatAreNotThere() {
        for (int at : new int[] {5, 7, 8, -1, LEAST, MOST}) {
            refused("bag(" + at + ", 0)", RefusedTest::usual, THROWN, NO_STATUS, x -> bag(x, at, 0));
            refused("bag(" + at + ", 7)", RefusedTest::usual, THROWN, NO_STATUS, x -> bag(x, at, 7));
            refused("call(" + at + ")", RefusedTest::usual, -1, 0, x -> x.call(at));
            refused("move(" + at + ", 1)", RefusedTest::usual, -1, 0, x -> x.move(at, 1));
            refused("move(" + at + ", 9)", RefusedTest::usual, -1, 0, x -> x.move(at, 9));
            refused("move(" + at + ", 5)", RefusedTest::usual, -1, 0, x -> x.move(at, 5));
            refused("hush(" + at + ")", RefusedTest::usual, -1, 0, x -> x.hush(at));
            refused("sell(" + at + ")", RefusedTest::usual, -1, 0, x -> x.sell(at));
            refused("large(" + at + ", 0)", RefusedTest::usual, -1, NO_STATUS, x -> x.large(at, 0));
            refused("ends(" + at + ")", RefusedTest::usual, -1, NO_STATUS, x -> x.ends(at));
            refused("falls(" + at + ")", RefusedTest::usual, -1, NO_STATUS, x -> x.falls(at));
            refused("sets(0, " + at + ")", RefusedTest::usual, -1, NO_STATUS, x -> x.sets(0, at));
            refused("sets(" + at + ", 0)", RefusedTest::usual, -1, NO_STATUS, x -> x.sets(at, 0));
            refused("game(" + at + ", ..)", RefusedTest::usual, -1000000, NO_STATUS, x -> x.game(at, 0, 0, 0));
            refused("rests(" + at + ", -1)", RefusedTest::usual, -1, NO_STATUS, x -> x.rests(at, -1));
            refused("odds(" + at + ", ..)", RefusedTest::usual, -1, NO_STATUS, x -> x.odds(at, 0, 0, 0));
            refused("shares(" + at + ", 0)", RefusedTest::usual, -1, NO_STATUS, x -> x.shares(at, 0));
        }
        for (int what : new int[] {-1, 8, LEAST, MOST}) {
            refused("bag(0, " + what + ")", RefusedTest::usual, THROWN, NO_STATUS, x -> bag(x, 0, what));
        }
    }

    private static void days() {
        for (int n : new int[] {0, 61, -1, LEAST, MOST}) {
            refused("days(" + n + ")", RefusedTest::usual, -1, 1, x -> x.days(n));
            refused("years(" + n + ", 3)", RefusedTest::usual, -1, NO_STATUS, x -> x.years(n, 3));
        }
    }

    private static void lastDays() {
        for (int[] w : new int[][] {{999, 1}, {999, 60}, {998, 2}, {960, 40}, {940, 60}}) {
            String name = " on day " + w[0];
            refused("days(" + w[1] + ")" + name, () -> onDay(w[0]), -1, 4, x -> x.days(w[1]));
            refused("years(" + w[1] + ", 1)" + name, () -> onDay(w[0]), -1, NO_STATUS, x -> x.years(w[1], 1));
        }
        // Of several the first: out of bounds, then beyond the last day.
        refused("days(0) on day 999", () -> onDay(999), -1, 1, x -> x.days(0));
        refused("days(61) on day 999", () -> onDay(999), -1, 1, x -> x.days(61));
        refused("years(61, 1) on day 999", () -> onDay(999), -1, NO_STATUS, x -> x.years(61, 1));
    }

    private static void leave() {
        int[][] wrong = {{0, 0, 0, 0}, {31, 0, 0, 0}, {-1, 0, 0, 0}, {LEAST, 0, 0, 0}, {MOST, 0, 0, 0}, {1, -1, 0, 0},
            {1, 10, 0, 0}, {1, LEAST, 0, 0}, {1, MOST, 0, 0}, {1, 0, -1, 0}, {1, 0, 10, 0}, {1, 0, LEAST, 0},
            {1, 0, MOST, 0}, {1, 0, 0, -1}, {1, 0, 0, 3}, {1, 0, 0, 9}, {1, 0, 0, LEAST}, {1, 0, 0, MOST},
            {30, 0, 0, 9}, {31, 0, 0, 0}, {30, 0, 10, 0}};
        for (int[] w : wrong) {
            refused("leave(" + w[0] + ", " + w[1] + ", " + w[2] + ", " + w[3] + ")", RefusedTest::usual, -1, 1,
                    x -> x.leave(w[0], w[1], w[2], w[3]));
        }
        refused("leave(12, ..) on 9 of 20", RefusedTest::usual, -1, 3, x -> x.leave(12, 0, 0, 0));
        refused("leave(6, ..) on 15 of 20", RefusedTest::usual, -1, 3, x -> x.leave(6, 9, 9, 1));
        refused("leave(30, ..) on 20", RefusedTest::untouched, -1, 3, x -> x.leave(30, 9, 9, 2));
    }

    private static void noPlace() {
        refused("leave(1, ..) beside eight", RefusedTest::poor, -1, 3, x -> x.leave(1, 0, 0, 0));
        refused("leave(0, ..) beside eight", RefusedTest::poor, -1, 1, x -> x.leave(0, 0, 0, 0));
        refused("leave(1, .., 2) beside eight", RefusedTest::poor, -1, 1, x -> x.leave(1, 0, 0, 2));
        refused("leave(30, ..) beside eight", RefusedTest::poor, -1, 3, x -> x.leave(30, 0, 0, 0));
    }

    private static void callAndSell() {
        refused("sell behind 3 days", RefusedTest::usual, -1, 2, x -> x.sell(0));
        refused("sell behind 0 days", RefusedTest::usual, -1, 2, x -> x.sell(4));
        refused("sell behind 6 days", RefusedTest::poor, -1, 2, x -> x.sell(7));
        Supplier<LeftArguments> called = () -> {
            LeftArguments x = poor();
            x.call(3);
            return x;
        };
        refused("call again", called, -1, 0, x -> x.call(3));
        refused("sell what was called for", called, -1, 0, x -> x.sell(3));
    }

    private static void move() {
        for (int shelf : new int[] {-1, 3, 4, 8, 10, LEAST, MOST}) {
            refused("move(0, " + shelf + ")", RefusedTest::usual, -1, 1, x -> x.move(0, shelf));
        }
        refused("move(0, 0)", RefusedTest::usual, -1, 2, x -> x.move(0, 0));
        refused("move(2, 2)", RefusedTest::usual, -1, 2, x -> x.move(2, 2));
        refused("move(3, 0), 12 to 9 of 20", RefusedTest::usual, -1, 3, x -> x.move(3, 0));
        refused("move(2, 1), 9 to 15 of 20", RefusedTest::usual, -1, 3, x -> x.move(2, 1));
    }

    private static void noCoin() {
        refused("move(2, 1) without a coin", RefusedTest::poor, -1, 3, x -> x.move(2, 1));
        refused("move(1, 0) without a coin", RefusedTest::poor, -1, 3, x -> x.move(1, 0));
        refused("move(7, 0), neither coin nor room", RefusedTest::poor, -1, 3, x -> x.move(7, 0));
        refused("move(2, 2) without a coin", RefusedTest::poor, -1, 1, x -> x.move(2, 2));
        refused("move(2, 0) without a coin", RefusedTest::poor, -1, 2, x -> x.move(2, 0));
        refused("move(1, 9), it is there", RefusedTest::poor, -1, 2, x -> x.move(1, 9));
        refused("hush(2) without a coin", RefusedTest::poor, -1, 3, x -> x.hush(2));
        refused("hush(0), it is, without a coin", RefusedTest::poor, -1, 2, x -> x.hush(0));
        refused("hush(8) without a coin", RefusedTest::poor, -1, 0, x -> x.hush(8));
    }

    private static void hush() {
        refused("hush(1), it is", RefusedTest::usual, -1, 2, x -> x.hush(1));
        refused("hush(0), it is", RefusedTest::poor, -1, 2, x -> x.hush(0));
    }

    private static void give() {
        for (int n : new int[] {0, 51, -1, LEAST, MOST}) {
            refused("give(" + n + ")", RefusedTest::usual, -1, 1, x -> x.give(n));
        }
        refused("give(1) to 999", () -> withCoins(999), -1, 1, x -> x.give(1));
        refused("give(2) to 998", () -> withCoins(998), -1, 1, x -> x.give(2));
        refused("give(50) to 950", () -> withCoins(950), -1, 1, x -> x.give(50));
        refused("give(51) to 999", () -> withCoins(999), -1, 1, x -> x.give(51));
    }

    private static void trainsAndYears() {
        for (int v : new int[] {-1, 10, LEAST, MOST, 3}) {
            refused("trains(" + v + ")", RefusedTest::usual, 0, NO_STATUS, x -> answer(x.trains(v)));
        }
        refused("trains(7)", RefusedTest::bare, 0, NO_STATUS, x -> answer(x.trains(7)));
        refused("trains(5)", RefusedTest::untouched, 0, NO_STATUS, x -> answer(x.trains(5)));
    }

    private static void undoAndBack() {
        refused("undo() of no act", RefusedTest::untouched, -1, NO_STATUS, LeftArguments::undo);
        refused("back() without an image", RefusedTest::untouched, -1, NO_STATUS, LeftArguments::back);
        Supplier<LeftArguments> returned = () -> {
            LeftArguments x = usual();
            x.back();
            return x;
        };
        refused("undo() behind back()", returned, -1, NO_STATUS, LeftArguments::undo);
        Supplier<LeftArguments> another = () -> {
            LeftArguments x = usual();
            x.end(0);
            Checks.tell(x, "bz7;bz8", 0);
            x.days(2);
            return x;
        };
        refused("back() to another office", another, -1, NO_STATUS, LeftArguments::back);
    }

    private static void seen() {
        int[][] wrong = {{4, 1, 1}, {-1, 1, 1}, {8, 1, 1}, {LEAST, 1, 1}, {MOST, 1, 1}, {0, 0, 1}, {0, 10, 1},
            {0, LEAST, 1}, {0, MOST, 1}, {0, 1, -1}, {0, 1, 100}, {0, 1, LEAST}, {0, 1, MOST}};
        for (int[] w : wrong) {
            String name = "seen(" + w[0] + ", " + w[1] + ", " + w[2] + ")";
            refused(name, RefusedTest::usual, -1, NO_STATUS, x -> x.seen(w[0], w[1], w[2], true));
            refused(name, RefusedTest::usual, -1, NO_STATUS, x -> x.seen(w[0], w[1], w[2], false));
        }
        Supplier<LeftArguments> ten = () -> {
            LeftArguments x = usual();
            for (int i = 2; i < 10; i++) {
                x.seen(i % 4, 1, 2 * i, i % 2 == 0);
            }
            C.due("seen", 10, x.count(7));
            return x;
        };
        refused("an eleventh", ten, -1, NO_STATUS, x -> x.seen(1, 1, 99, true));
        int[][] asked = {{4, -1}, {4, 0}, {-1, -1}, {LEAST, 0}, {MOST, -1}, {0, -2}, {0, 30}, {0, LEAST}, {0, MOST}};
        for (int[] w : asked) {
            refused("sizes(" + w[0] + ", " + w[1] + ")", RefusedTest::usual, -1, NO_STATUS, x -> x.sizes(w[0], w[1]));
        }
        for (int[] w : new int[][] {{4, 1}, {-1, 1}, {LEAST, 1}, {MOST, 1}, {0, 0}, {0, 10}, {0, LEAST}, {0, MOST}}) {
            refused("ask(" + w[0] + ", " + w[1] + ")", RefusedTest::usual, -1, NO_STATUS, x -> x.ask(w[0], w[1]));
        }
    }

    private static void apart() {
        for (int n : new int[] {-1, 100, LEAST, MOST}) {
            refused("large(0, " + n + ")", RefusedTest::usual, -1, NO_STATUS, x -> x.large(0, n));
        }
        refused("falls(1) of one on the floor", RefusedTest::poor, -1, NO_STATUS, x -> x.falls(1));
        for (int what : new int[] {-1, 2, LEAST, MOST}) {
            refused("shelved(" + what + ")", RefusedTest::usual, -1, NO_STATUS, x -> x.shelved(what));
            refused("apart(" + what + ")", RefusedTest::usual, -1, NO_STATUS, x -> x.apart(what));
        }
        refused("sets(2, 2)", RefusedTest::usual, -1, NO_STATUS, x -> x.sets(2, 2));
        for (int c : new int[] {0, 401, -1, LEAST, MOST, 1}) {
            refused("sale(" + c + ")", RefusedTest::usual, -1, NO_STATUS, x -> x.sale(c));
        }
        for (int c : new int[] {-1, 1000, LEAST, MOST}) {
            refused("shares(0, " + c + ")", RefusedTest::usual, -1, NO_STATUS, x -> x.shares(0, c));
        }
    }

    private static void gameAndOdds() {
        for (int[] w : new int[][] {{-1, 0, 0}, {4, 0, 0}, {LEAST, 0, 0}, {MOST, 0, 0}, {0, -1, 0}, {0, 4, 0},
            {0, LEAST, 0}, {0, MOST, 0}, {0, 0, -1}, {0, 0, 2}, {0, 0, LEAST}, {0, 0, MOST}}) {
            refused("game(0, " + w[0] + ", " + w[1] + ", " + w[2] + ")", RefusedTest::usual, -1000000, NO_STATUS,
                    x -> x.game(0, w[0], w[1], w[2]));
        }
        for (int i : new int[] {-2, 16, LEAST, MOST}) {
            refused("rests(0, " + i + ")", RefusedTest::usual, -1, NO_STATUS, x -> x.rests(0, i));
        }
        for (int[] w : new int[][] {{-1, 0, 0}, {7, 0, 0}, {LEAST, 0, 0}, {MOST, 0, 0}, {0, -1, 0}, {0, 100, 0},
            {0, LEAST, 0}, {0, MOST, 0}, {0, 0, -1}, {0, 0, 101}, {0, 0, LEAST}, {0, 0, MOST}}) {
            refused("odds(0, " + w[0] + ", " + w[1] + ", " + w[2] + ")", RefusedTest::usual, -1, NO_STATUS,
                    x -> x.odds(0, w[0], w[1], w[2]));
        }
    }

    /** Tape, laws, places, shelves, log, acts, seen, coins, days: there is no more of any. */
    private static void allFull() {
        Supplier<LeftArguments> state = () -> {
            LeftArguments x = still("sw20n2f9k99" + ";bz5".repeat(4) + ";bz5h1".repeat(4));
            for (int i = 1; i < 4; i++) {
                Checks.tell(x, "y:z-" + i, 1);
            }
            for (int i = 0; i < 10; i++) {
                x.seen(i % 8, 1, 3 + i, i % 2 == 0);
            }
            for (int i = 0; i < 18; i++) {
                x.give(50);
            }
            for (int i = 0; i < 16; i++) {
                x.days(60);
            }
            x.days(39);
            x.image();
            Checks.feed(x, "y:1" + " ".repeat(237));
            return x;
        };
        refused("feed", state, -1, NO_STATUS, x -> x.feed(0x20, 0, 0, 0, 0));
        refused("end(241)", state, 0, NO_STATUS, x -> answer(x.end(241)));
        refused("text(0)", state, -1, NO_STATUS, x -> x.text(0));
        refused("text(1)", state, -1, NO_STATUS, x -> x.text(1));
        refused("days(1)", state, -1, 4, x -> x.days(1));
        refused("years(1, 1)", state, -1, NO_STATUS, x -> x.years(1, 1));
        refused("leave(1, ..)", state, -1, 3, x -> x.leave(1, 0, 0, 0));
        refused("move(0, 1)", state, -1, 3, x -> x.move(0, 1));
        refused("move(7, 0)", state, -1, 3, x -> x.move(7, 0));
        refused("give(1)", state, -1, 1, x -> x.give(1));
        refused("seen(..)", state, -1, NO_STATUS, x -> x.seen(0, 1, 1, true));
        refused("log(60, 0)", state, -1, NO_STATUS, x -> x.log(60, 0));
        refused("shelved(1)", state, 2, NO_STATUS, x -> x.shelved(1));
        refused("most(9)", state, 0, NO_STATUS, x -> x.most(9));
    }

    /** An office of nothing. */
    private static void allEmpty() {
        Supplier<LeftArguments> state = () -> Checks.office("sw1n1f0k0");
        refused("end(1)", state, 0, NO_STATUS, x -> answer(x.end(1)));
        refused("text(0)", state, -1, NO_STATUS, x -> x.text(0));
        refused("text(1)", state, -1, NO_STATUS, x -> x.text(1));
        refused("law(0)", state, 0, NO_STATUS, x -> answer(x.law(0)));
        refused("leave(2, ..)", state, -1, 3, x -> x.leave(2, 0, 0, 0));
        refused("leave(1, .., 1)", state, -1, 1, x -> x.leave(1, 0, 0, 1));
        refused("undo()", state, -1, NO_STATUS, LeftArguments::undo);
        refused("back()", state, -1, NO_STATUS, LeftArguments::back);
        refused("log(0, 0)", state, -1, NO_STATUS, x -> x.log(0, 0));
        refused("seen(0, ..)", state, -1, NO_STATUS, x -> x.seen(0, 1, 0, true));
        refused("sizes(0, -1)", state, -1, NO_STATUS, x -> x.sizes(0, -1));
        refused("ask(0, 1)", state, -1, NO_STATUS, x -> x.ask(0, 1));
        refused("sale(1)", state, -1, NO_STATUS, x -> x.sale(1));
        refused("shelved(0)", state, -1, NO_STATUS, x -> x.shelved(0));
        refused("apart(0)", state, -1, NO_STATUS, x -> x.apart(0));
        refused("roar()", state, 0, NO_STATUS, LeftArguments::roar);
        for (int place = 0; place < 8; place++) {
            int at = place;
            refused("bag(" + at + ", 0)", state, THROWN, NO_STATUS, x -> bag(x, at, 0));
            refused("call(" + at + ")", state, -1, 0, x -> x.call(at));
            refused("move(" + at + ", 9)", state, -1, 0, x -> x.move(at, 9));
            refused("hush(" + at + ")", state, -1, 0, x -> x.hush(at));
            refused("sell(" + at + ")", state, -1, 0, x -> x.sell(at));
            refused("large(" + at + ", 0)", state, -1, NO_STATUS, x -> x.large(at, 0));
        }
    }

    /** What only looks changes nothing, status with it. */
    private static void looks() {
        refused("large(0, 99)", RefusedTest::usual, 5, NO_STATUS, x -> x.large(0, 99));
        refused("ends(0)", RefusedTest::usual, -1, NO_STATUS, x -> x.ends(0));
        refused("falls(0)", RefusedTest::usual, -1, NO_STATUS, x -> x.falls(0));
        refused("shelved(0)", RefusedTest::usual, 11, NO_STATUS, x -> x.shelved(0));
        refused("shelved(1)", RefusedTest::usual, 2, NO_STATUS, x -> x.shelved(1));
        refused("sets(0, 4)", RefusedTest::usual, 1, NO_STATUS, x -> x.sets(0, 4));
        refused("apart(1)", RefusedTest::usual, 3, NO_STATUS, x -> x.apart(1));
        refused("roar()", RefusedTest::usual, 19, NO_STATUS, LeftArguments::roar);
        refused("sizes(0, -1)", RefusedTest::usual, 26, NO_STATUS, x -> x.sizes(0, -1));
        refused("ask(0, 9)", RefusedTest::usual, 18, NO_STATUS, x -> x.ask(0, 9));
        refused("game(1, 3, 3, 0)", RefusedTest::usual, 21, NO_STATUS, x -> x.game(1, 3, 3, 0));
        refused("rests(0, -1)", RefusedTest::usual, 1, NO_STATUS, x -> x.rests(0, -1));
        refused("odds(1, 6, 3, 50)", RefusedTest::usual, 1000000000, NO_STATUS, x -> x.odds(1, 6, 3, 50));
        refused("shares(0, 999)", RefusedTest::usual, 151, NO_STATUS, x -> x.shares(0, 999));
        refused("most(3)", RefusedTest::usual, 0, NO_STATUS, x -> x.most(3));
        refused("fault(0)", RefusedTest::usual, 0, NO_STATUS, x -> x.fault(0));
        refused("fault(1)", RefusedTest::usual, 3, NO_STATUS, x -> x.fault(1));
        refused("end(4)", RefusedTest::usual, 1, NO_STATUS, x -> answer(x.end(4)));
        refused("feed of nothing", RefusedTest::usual, 4, NO_STATUS, x -> x.feed(0, 0, 0, 0, 0));
        refused("law(0), it is", RefusedTest::usual, 1, NO_STATUS, x -> answer(x.law(0)));
    }
}
