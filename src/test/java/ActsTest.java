/** Promises 7, 8, 10 to 21 and 38 to 40: bags, days, what is done by hand, years, the log, undoing, images. */
public final class ActsTest {
    private static final Checks C = new Checks();

    public static void main(String[] args) {
        promise7Bag();
        growthIsHeldWithoutALaw();
        promise8Load();
        promise10Days();
        daysHush();
        daysEndAndFall();
        smallestFall();
        daysHaveBounds();
        promise11Leave();
        promise12Call();
        promise13Move();
        promise14Hush();
        promise15Sell();
        promise16Give();
        promise17Trains();
        promise18Years();
        promise19Status();
        promise20Undo();
        undoneLog();
        promise21Log();
        promises38And39Image();
        promise40Count();
        C.finish("ActsTest");
    }

    private static void status(LeftArguments x, int... want) {
        for (int what = 0; what < want.length; what++) {
            C.due("status(" + what + ")", want[what], x.status(what));
        }
    }

    private static void promise7Bag() {
        LeftArguments x = Checks.office("bz5a6c2;bz3a1c9l1");
        int[] first = {5, 6, 2, 0, 0, 0, 0, 1};
        int[] second = {3, 1, 9, 0, 1, 0, 0, 0};
        for (int what = 0; what < 8; what++) {
            C.bags(x, what, first[what], second[what]);
        }
        C.noBag(x, 0, 8);
        C.noBag(x, 0, -1);
        C.noBag(x, 2, 0);
        C.noBag(x, 7, 0);
        C.noBag(x, -1, 0);
        C.noBag(x, 8, 0);
        C.noBag(x, Integer.MIN_VALUE, Integer.MAX_VALUE);
        x.hush(1);
        C.due("hushed", 1, x.bag(1, 6));
        C.due("growth of a hushed one", 0, x.bag(1, 7));
        x.days(1);
        // Side 1 answered for the first one; the other was hushed.
        C.bags(x, 0, 6, 3);
        C.bags(x, 4, 1, 1);
        C.bags(x, 5, 1, 1);
        C.bags(x, 6, 0, 0);
        C.bags(x, 7, 3, 0);
        // On the floor they are together, too.
        LeftArguments y = Checks.office("ba0c0;ba0c0;ba0c0h1");
        C.bags(y, 7, 0, 0, -1);
        y.move(0, 9);
        y.move(2, 9);
        C.bags(y, 7, 0, -1, 0);
        LeftArguments z = Checks.office("bc9;b;b;b;b;b;b;bc8");
        C.due("held at 9 without a law", 9, z.bag(0, 7));
        C.due("held at 9 without a law", 9, z.bag(7, 7));
    }

    /** Eight bags on the floor; those in places 1 and 2 would grow by 4 and 7 less 1: 10, held: 9. */
    private static LeftArguments eightOnTheFloor() {
        LeftArguments x = Checks.office("sw60;bz1c7;bz1c9;bz1c8;bz1c6;bz1c5;bz1c4;bz1c3;bz1c0");
        for (int at = 0; at < 8; at++) {
            C.due("to the floor", 0, x.move(at, 9));
        }
        return x;
    }

    private static void growthIsHeldWithoutALaw() {
        LeftArguments x = eightOnTheFloor();
        C.bags(x, 7, 9, 9, 9, 9, 8, 8, 7, 6);
        C.due("the loudest is the lowest of those held", 0, x.most(3));
        C.due("large(1, 1)", 10, x.large(1, 1));
        C.due("large(2, 1)", 10, x.large(2, 1));
        C.due("odds of 10", 1000000000, x.odds(1, 1, 10, 0));
        C.due("odds of 11", 0, x.odds(1, 1, 11, 0));
        C.due("image", 0, x.image());
        x.days(1);
        C.bags(x, 0, 10, 10, 10, 10, 9, 9, 8, 7);
        C.due("log", 73, x.log(0, 2));
        x.back();
        // No train comes, and nobody calls.
        x.trains(0);
        C.due("a year's day", 1, x.years(1, seedOfNoCaller()));
        C.bags(x, 0, 10, 10, 10, 10, 9, 9, 8, 7);
        x.undo();
        // By a law it is held, too, and again when none holds any more.
        x.law(Checks.tell(x, "y:a+n", 1));
        C.bags(x, 7, 9, 9, 9, 9, 9, 9, 9, 7);
        x.law(-1);
        C.bags(x, 7, 9, 9, 9, 9, 8, 8, 7, 6);
        // One bag less, and nothing is to be held: 4 and 6 less 1.
        x.call(7);
        C.bags(x, 7, 8, 9, 9, 8, 7, 7, 6);
    }

    /** A seed whose second draw, of 16, is no place. */
    private static long seedOfNoCaller() {
        for (long seed = 0; seed < 1000; seed++) {
            long first = seed * 6364136223846793005L + 1442695040888963407L;
            long second = first * 6364136223846793005L + 1442695040888963407L;
            if ((second >>> 33) % 16 >= 8) {
                return seed;
            }
        }
        return 0;
    }

    private static void promise8Load() {
        LeftArguments x = Checks.office("sn2w5;bz30;bz4;bz7h1");
        C.due("load(0)", 34, x.load(0));
        C.due("load(1)", 7, x.load(1));
        C.due("load(2)", -1, x.load(2));
        C.due("load(-1)", -1, x.load(-1));
        C.due("load(8)", -1, x.load(8));
        C.due("load(10)", -1, x.load(10));
        C.due("load(9)", 0, x.load(9));
        x.move(0, 9);
        x.move(2, 9);
        C.due("load(9)", 37, x.load(9));
        C.due("load(1)", 0, x.load(1));
    }

    private static void promise10Days() {
        LeftArguments x = Checks.office("bz5a6c2");
        // Without a law: side 1 adds 2 / 2 - 1, side 0 adds 6 / 2 - 1.
        C.due("days(1)", 1, x.days(1));
        C.due("size", 5, x.bag(0, 0));
        C.due("days(1)", 2, x.days(1));
        C.due("size", 7, x.bag(0, 0));
        C.due("days(4)", 6, x.days(4));
        C.due("size", 11, x.bag(0, 0));
        C.due("days(0)", -1, x.days(0));
        C.due("days(61)", -1, x.days(61));
        C.due("days(-1)", -1, x.days(-1));
        status(x, 0, 3, 0, 0, 0);
        C.due("days(60)", 66, x.days(60));
        for (int day = 126; day <= 966; day += 60) {
            C.due("days(60)", day, x.days(60));
        }
        C.due("days(34)", -1, x.days(34));
        C.due("days(33)", 999, x.days(33));
        C.due("days(1)", -1, x.days(1));
        C.due("days(61) on the last day", -1, x.days(61));
        status(x, 0, 4, 0, 0, 2);
        C.due("there at most 99 days", 99, x.bag(0, 5));
        C.due("size at most", 99, x.bag(0, 0));
    }

    private static void daysHush() {
        LeftArguments x = Checks.office("sk3;bz5c9;bz5c9h1");
        x.hush(0);
        x.days(1);
        C.bags(x, 0, 5, 8);
        C.bags(x, 4, 0, 1);
        C.bags(x, 5, 1, 1);
        x.days(1);
        C.bags(x, 0, 8, 9);
    }

    private static void daysEndAndFall() {
        // All grow as the day began: by 1 each, though the first one's end leaves the other alone.
        LeftArguments x = Checks.officeWithLaw("bz2;bz9", "y:z<5?0-5;y:n");
        x.days(1);
        C.noBag(x, 0, 0);
        C.due("size", 10, x.bag(1, 0));
        C.due("ended", 1, x.log(0, 1));
        x.days(1);
        C.due("size", 10, x.bag(1, 0));
        // The largest falls, of several the lowest place, as long as need be; shelf by shelf.
        LeftArguments y = Checks.officeWithLaw("sw10n2;bz4;bz5;bz5;bz30h1;bz3;bz10h1", "y:0");
        y.days(1);
        C.due("fell", 0b001110, y.log(0, 0));
        C.bags(y, 3, 0, 9, 9, 9, 0, 1);
        C.due("load(0)", 7, y.load(0));
        C.due("load(9)", 40, y.load(9));
        LeftArguments z = Checks.officeWithLaw("sw9n1;bz9;bz9;bz9", "y:0");
        z.days(1);
        C.due("fell", 3, z.log(0, 0));
        C.bags(z, 3, 9, 9, 0);
        // Ended ones weigh nothing when it is looked what falls; the floor bears all.
        LeftArguments w = Checks.officeWithLaw("sw9n1;bz9;bz1", "y:z=1?0-1;y:0");
        w.days(1);
        C.due("fell", 0, w.log(0, 0));
        C.due("ended", 2, w.log(0, 1));
        C.due("sizes", 9, w.log(0, 2));
    }

    private static void smallestFall() {
        LeftArguments x = Checks.officeWithLaw("sw5;bz1;bz1;bz1;bz1;bz1;bz1;bz1;bz1", "y:0");
        C.due("falls", 1, x.falls(2));
        C.due("does not fall", -1, x.falls(3));
        x.days(1);
        C.due("fell", 0b00000111, x.log(0, 0));
        C.due("load", 5, x.load(0));
        C.due("load of the floor", 3, x.load(9));
    }

    private static void daysHaveBounds() {
        LeftArguments x = Checks.officeWithLaw("sw60;bz30;bz5h1", "y:z>20?9;y:0-9");
        x.days(1);
        C.due("size", 39, x.bag(0, 0));
        C.noBag(x, 1, 0);
        x.days(9);
        C.due("size at most 99", 99, x.bag(0, 0));
        // d and t: days there and the day modulo 100.
        LeftArguments y = Checks.officeWithLaw("sw60;bz1", "y:d-t");
        y.days(60);
        C.due("left", 1, y.leave(1, 0, 0, 1));
        C.due("d - t of the old", 0, y.bag(0, 7));
        C.due("d - t of the new", -9, y.bag(1, 7));
        y.move(1, 9);
        y.undo();
        y.undo();
        y.days(39);
        C.due("d 99, t 99", 0, y.bag(0, 7));
        y.days(1);
        C.due("d stays 99, t is 0", 9, y.bag(0, 7));
    }

    private static void promise11Leave() {
        LeftArguments x = new LeftArguments();
        C.due("no office", -1, x.leave(1, 0, 0, 0));
        C.due("no office, out of bounds", -1, x.leave(0, 0, 0, 0));
        status(x, 2, 0, 0, 0, 0);
        Checks.tell(x, "sw10n2;bz3;bz1h1l1", 0);
        int[][] wrong = {{0, 0, 0, 0}, {31, 0, 0, 0}, {1, -1, 0, 0}, {1, 10, 0, 0}, {1, 0, -1, 0}, {1, 0, 10, 0},
            {1, 0, 0, -1}, {1, 0, 0, 2}, {1, 0, 0, 9}};
        for (int[] w : wrong) {
            C.due("out of bounds", -1, x.leave(w[0], w[1], w[2], w[3]));
        }
        status(x, 2, wrong.length, 0, 0, 0);
        C.due("too large", -1, x.leave(8, 0, 0, 0));
        status(x, 2, wrong.length, 0, 1, 0);
        C.due("leave", 2, x.leave(7, 9, 8, 0));
        int[] want = {7, 9, 8, 0, 0, 0, 0};
        for (int what = 0; what < 7; what++) {
            C.due("bag(2, " + what + ")", want[what], x.bag(2, what));
        }
        x.call(0);
        C.due("the lowest place", 0, x.leave(1, 1, 1, 0));
        for (int at = 3; at < 8; at++) {
            C.due("leave", at, x.leave(1, 0, 0, 1));
        }
        C.due("no place", -1, x.leave(1, 0, 0, 1));
        C.due("out of bounds first", -1, x.leave(1, 0, 0, 2));
        status(x, 2, wrong.length + 1, 0, 2, 0);
        LeftArguments y = Checks.office("sw60");
        C.due("leave of the largest", 0, y.leave(30, 9, 9, 2));
        // What was there before does not cling to the place.
        y.hush(0);
        y.call(0);
        y.leave(2, 1, 1, 0);
        C.due("not hushed", 0, y.bag(0, 6));
    }

    private static void promise12Call() {
        LeftArguments x = Checks.office("sf9k99;bz2a0c0;bz2a0c0h1");
        C.due("call at once", 0, x.call(0));
        C.due("call again", -1, x.call(0));
        C.due("call(-1)", -1, x.call(-1));
        C.due("call(8)", -1, x.call(8));
        status(x, 3, 0, 0, 0, 0);
        LeftArguments y = Checks.officeWithLaw("sf9k99;b;bh1;bh2", "y:0");
        y.days(3);
        C.due("call", 27, y.call(0));
        C.due("coins", 126, y.rule(3));
        C.noBag(y, 0, 0);
        y.days(60);
        C.due("call", 567, y.call(1));
        C.due("coins", 693, y.rule(3));
        y.days(60);
        C.due("call brings more than is kept", 891, y.call(2));
        C.due("coins at most 999", 999, y.rule(3));
    }

    private static void promise13Move() {
        LeftArguments x = Checks.office("sw9n2k2;bz5;bz4h1");
        C.due("none there", -1, x.move(2, 5));
        C.due("no such shelf", -1, x.move(0, 2));
        C.due("no such shelf", -1, x.move(0, 8));
        C.due("it is there", -1, x.move(0, 0));
        status(x, 1, 2, 1, 0, 0);
        C.due("move", 0, x.move(0, 1));
        C.due("coins", 1, x.rule(3));
        C.due("to the floor for nothing", 1, x.move(0, 9));
        C.due("coins", 1, x.rule(3));
        C.due("it is there", -1, x.move(0, 9));
        x.leave(5, 1, 1, 1);
        C.due("it does not do there", -1, x.move(0, 1));
        C.due("coins", 1, x.rule(3));
        C.due("from the floor", 9, x.move(0, 0));
        C.due("coins", 0, x.rule(3));
        C.due("no coin", -1, x.move(1, 0));
        status(x, 1, 2, 2, 2, 0);
        C.due("the floor needs none", 1, x.move(1, 9));
        C.due("no office", -1, new LeftArguments().move(0, 9));
        LeftArguments y = Checks.office("sk9;bz5");
        y.days(2);
        y.hush(0);
        y.move(0, 2);
        C.due("days stay", 2, y.bag(0, 5));
        C.due("hushed still", 1, y.bag(0, 6));
    }

    private static void promise14Hush() {
        LeftArguments x = Checks.office("sk2;b;bh1;bh2");
        C.due("none there", -1, x.hush(3));
        C.due("hush", 1, x.hush(0));
        C.due("twice", -1, x.hush(0));
        C.due("hush", 0, x.hush(2));
        C.due("it is first", -1, x.hush(0));
        C.due("no coin", -1, x.hush(1));
        C.due("hushed", 0b101, x.most(7));
        status(x, 1, 0, 2, 1, 0);
        x.days(1);
        C.due("till the day is over", 0, x.most(7));
    }

    private static void promise15Sell() {
        LeftArguments x = Checks.officeWithLaw("sk99;bz30;bz4h1", "y:0");
        C.due("none there", -1, x.sell(2));
        x.days(6);
        C.due("less than 7 days", -1, x.sell(0));
        status(x, 1, 0, 1, 0, 0);
        x.days(1);
        C.due("sell", 30, x.sell(0));
        C.due("coins", 129, x.rule(3));
        C.noBag(x, 0, 0);
        for (int i = 0; i < 17; i++) {
            x.give(50);
        }
        x.give(19);
        C.due("coins", 998, x.rule(3));
        C.due("sell", 4, x.sell(1));
        C.due("coins at most 999", 999, x.rule(3));
    }

    private static void promise16Give() {
        LeftArguments x = new LeftArguments();
        C.due("no office", -1, x.give(0));
        status(x, 1, 0, 0, 0, 0);
        Checks.tell(x, "sk0", 0);
        C.due("give(0)", -1, x.give(0));
        C.due("give(51)", -1, x.give(51));
        C.due("give(1)", 1, x.give(1));
        for (int i = 1; i <= 19; i++) {
            C.due("give(50)", 1 + 50 * i, x.give(50));
        }
        C.due("above 999", -1, x.give(49));
        C.due("give(48)", 999, x.give(48));
        C.due("above 999", -1, x.give(1));
        status(x, 1, 4, 0, 0, 0);
    }

    private static void promise17Trains() {
        LeftArguments x = new LeftArguments();
        C.due("it is so", false, x.trains(5));
        C.due("trains(-1)", false, x.trains(-1));
        C.due("trains(10)", false, x.trains(10));
        C.due("trains(0)", true, x.trains(0));
        C.due("count(6)", 0, x.count(6));
        C.due("it is so", false, x.trains(0));
        C.due("trains(9)", true, x.trains(9));
        C.due("count(6)", 9, x.count(6));
    }

    private static void promise18Years() {
        LeftArguments x = new LeftArguments();
        C.due("no office", -1, x.years(1, 1));
        Checks.tell(x, "s", 0);
        C.due("years(0)", -1, x.years(0, 1));
        C.due("years(61)", -1, x.years(61, 1));
        status(x, 0, 0, 0, 0, 0);
        C.due("years(60)", 60, x.years(60, 7));
        C.due("acts", 40, x.count(9));
        C.due("log", 60, x.count(8));
        x.trains(0);
        for (int day = 120; day <= 960; day += 60) {
            C.due("years(60)", day, x.years(60, day));
        }
        C.due("beyond 999", -1, x.years(40, 1));
        C.due("years(39)", 999, x.years(39, 1));
        status(x, 0, 0, 0, 0, 0);
        yearsByHand();
    }

    /** The draws worked out beside the class: what comes by train and who calls, ahead of one day. */
    private static void yearsByHand() {
        for (long seed = -20; seed < 60; seed++) {
            LeftArguments x = Checks.officeWithLaw("sw9n2f3k5;bz4;bz2h1", "y:0");
            LeftArguments y = Checks.officeWithLaw("sw9n2f3k5;bz4;bz2h1", "y:0");
            x.days(2);
            y.days(2);
            x.trains(8);
            long[] state = {seed};
            if (draw(state, 10) < 8) {
                int size = 1 + draw(state, 9);
                int one = draw(state, 10);
                int other = draw(state, 10);
                y.leave(size, one, other, draw(state, 2));
            }
            y.call(draw(state, 16));
            y.days(1);
            C.due("years(1, " + seed + ")", 3, x.years(1, seed));
            C.due("bags", y.most(5), x.most(5));
            C.due("coins", y.rule(3), x.rule(3));
            for (int at = 0; at < 3; at++) {
                for (int what = 0; what < 7 && (x.most(5) >> at & 1) == 1; what++) {
                    C.due("bag(" + at + ", " + what + ")", y.bag(at, what), x.bag(at, what));
                }
            }
            C.due("one act", 3, x.count(9));
            x.undo();
            C.due("day", 2, x.count(5));
            C.due("bags are as before", 3, x.most(5));
        }
    }

    private static int draw(long[] state, int of) {
        state[0] = state[0] * 6364136223846793005L + 1442695040888963407L;
        return (int) ((state[0] >>> 33) % of);
    }

    private static void promise19Status() {
        LeftArguments x = new LeftArguments();
        C.due("status(-1)", -1, x.status(-1));
        C.due("status(5)", -1, x.status(5));
        x.days(0);
        x.leave(0, 0, 0, 9);
        x.call(0);
        x.move(0, 7);
        x.hush(9);
        x.sell(0);
        x.give(0);
        status(x, 7, 0, 0, 0, 0);
        // These are no acts.
        x.undo();
        x.back();
        x.image();
        x.years(0, 1);
        x.trains(77);
        x.law(9);
        x.text(0);
        x.seen(0, 0, 0, true);
        status(x, 7, 0, 0, 0, 0);
        Checks.tell(x, "b", 0);
        x.days(0);
        x.undo();
        status(x, 7, 1, 0, 0, 0);
    }

    private static void promise20Undo() {
        LeftArguments x = Checks.officeWithLaw("sk5f2;bz5;bz6h1", "y:1");
        C.due("undo of none", -1, x.undo());
        x.days(7);
        x.hush(0);
        x.move(0, 2);
        x.give(9);
        x.leave(2, 1, 1, 2);
        x.sell(0);
        x.call(1);
        C.due("acts", 13, x.count(9));
        C.due("coins", 5 - 2 + 9 + 12 + 14, x.rule(3));
        C.due("call undone", 12, x.undo());
        C.due("bag is back", 13, x.bag(1, 0));
        C.due("sale undone", 11, x.undo());
        C.due("it is hushed still", 1, x.bag(0, 6));
        C.due("coins", 12, x.rule(3));
        C.due("leave undone", 10, x.undo());
        C.noBag(x, 2, 0);
        C.due("gift undone", 9, x.undo());
        C.due("coins", 3, x.rule(3));
        C.due("move undone", 8, x.undo());
        C.due("shelf", 0, x.bag(0, 3));
        C.due("hush undone", 7, x.undo());
        C.due("not hushed", 0, x.bag(0, 6));
        C.due("coins", 5, x.rule(3));
        C.due("a day undone", 6, x.undo());
        C.due("day", 6, x.count(5));
        C.due("size", 11, x.bag(0, 0));
        C.due("stay", 6, x.bag(0, 5));
        x.leave(99, 0, 0, 0);
        C.due("a refused act is none", 6, x.count(9));
        x.days(50);
        C.due("at most 40", 40, x.count(9));
        for (int left = 39; left >= 0; left--) {
            C.due("undo()", left, x.undo());
        }
        C.due("undo()", -1, x.undo());
        C.due("day", 16, x.count(5));
    }

    private static void undoneLog() {
        LeftArguments x = Checks.officeWithLaw("bz1", "y:t=4|t=44?0;y:1");
        x.days(60);
        x.days(40);
        int before = x.log(59, 2);
        for (int i = 0; i < 40; i++) {
            x.undo();
        }
        C.due("log is as it was", 60, x.count(8));
        C.due("the oldest is there again", 2, x.log(59, 2));
        C.due("the latest", 59, x.log(0, 2));
        x.days(40);
        C.due("the oldest of 100 days", before, x.log(59, 2));
    }

    private static void promise21Log() {
        LeftArguments x = Checks.officeWithLaw("sw9n1;bz5;bz3;bz1h0", "y:z=1?0-1;y:1");
        C.due("no log", -1, x.log(0, 0));
        x.days(2);
        int[][] want = {{0, 0, 12}, {1, 4, 10}};
        for (int i = 0; i < 2; i++) {
            for (int what = 0; what < 3; what++) {
                C.due("log(" + i + ", " + what + ")", want[i][what], x.log(i, what));
            }
        }
        C.due("log(2, 0)", -1, x.log(2, 0));
        C.due("log(-1, 0)", -1, x.log(-1, 0));
        C.due("log(0, 3)", -1, x.log(0, 3));
        C.due("log(0, -1)", -1, x.log(0, -1));
        x.days(60);
        C.due("count(8)", 60, x.count(8));
        C.due("log(60, 0)", -1, x.log(60, 0));
        C.due("log(59, 2)", 14, x.log(59, 2));
        C.due("log(58, 2)", 16, x.log(58, 2));
    }

    private static void promises38And39Image() {
        LeftArguments x = new LeftArguments();
        C.due("no office", -1, x.image());
        C.due("no image", -1, x.back());
        Checks.tell(x, "sk9;bz5;bz4h1", 0);
        C.due("no image yet", -1, x.back());
        x.days(3);
        x.hush(1);
        C.due("image()", 3, x.image());
        int size = x.bag(0, 0);
        int logged = x.log(1, 2);
        x.undo();
        x.undo();
        x.undo();
        x.leave(9, 9, 9, 0);
        x.days(5);
        x.move(0, 9);
        x.seen(0, 1, 1, true);
        C.due("back()", 3, x.back());
        C.due("size", size, x.bag(0, 0));
        C.due("shelf", 0, x.bag(0, 3));
        C.due("hushed", 2, x.most(7));
        C.due("coins", 8, x.rule(3));
        C.due("log", 3, x.count(8));
        C.due("logged", logged, x.log(1, 2));
        C.due("no act can be undone", -1, x.undo());
        C.due("count(9)", 0, x.count(9));
        C.due("what was seen stays", 1, x.count(7));
        C.noBag(x, 2, 0);
        x.days(1);
        C.due("back() again", 3, x.back());
        x.days(2);
        C.due("another image", 5, x.image());
        x.undo();
        C.due("back()", 5, x.back());
        Checks.tell(x, "b", 0);
        C.due("no image of this office", -1, x.back());
    }

    private static void promise40Count() {
        LeftArguments x = Checks.officeWithLaw("bz5;bz4;bz3", "y:1");
        x.days(2);
        x.call(1);
        x.seen(2, 1, 1, true);
        x.seen(2, 2, 1, true);
        Checks.feed(x, "abcd");
        x.trains(3);
        int[] want = {3, 2, 1, 4, 0, 2, 3, 2, 2, 3};
        for (int what = 0; what < want.length; what++) {
            C.due("count(" + what + ")", want[what], x.count(what));
        }
        C.due("count(10)", -1000000, x.count(10));
        C.due("count(-1)", -1000000, x.count(-1));
        C.due("NONE", -1, LeftArguments.NONE);
        C.due("HIDDEN", -1000000, LeftArguments.HIDDEN);
    }
}
