import java.math.BigInteger;
import java.util.List;
import java.util.function.Predicate;

/** The edges of years, trains, images and counts (part 4, promise 40), one sentence of the document each. */
public final class YearBoundsTest {
    private static final Checks C = new Checks();
    private static final int LEAST = Integer.MIN_VALUE;
    private static final int MOST = Integer.MAX_VALUE;
    private static final long[] SEEDS = {0, 1, -1, 2, 33, Long.MIN_VALUE, Long.MAX_VALUE, Long.MIN_VALUE + 1, 1L << 32,
        1L << 33, 1L << 62, -(1L << 33), 0x5555555555555555L, 0xAAAAAAAAAAAAAAAAL, 6364136223846793005L,
        1442695040888963407L};

    public static void main(String[] args) {
        oneToSixtyDays();
        noneBeyondTheLastDay();
        trainsWithinBounds();
        drawBelowTrains();
        drawsGoRound();
        leftIfItDoes();
        leftIfThereIsAPlace();
        drawOfSixteen();
        calledForAsByHand();
        eachDayIsOneAct();
        noStatus();
        imageKeeps();
        imageInsteadOfTheOneAhead();
        imageOfThisOffice();
        noActBehindBack();
        fullLogComesBack();
        counts();
        countsAtTheirMost();
        C.finish("YearBoundsTest");
    }

    /** Draws worked out by numbers without bounds, cut to 64 bits by hand. */
    private static final class Draws {
        private static final BigInteger ROUND = BigInteger.ONE.shiftLeft(64);
        private static final BigInteger TIMES = new BigInteger("6364136223846793005");
        private static final BigInteger MORE = new BigInteger("1442695040888963407");
        private BigInteger x;

        Draws(long seed) {
            x = BigInteger.valueOf(seed);
        }

        int of(int j) {
            x = x.multiply(TIMES).add(MORE).mod(ROUND);
            return x.shiftRight(33).mod(BigInteger.valueOf(j)).intValue();
        }
    }

    /** What one day's draws are, if there are so many shelves: comes, size, sides 0 and 1, shelf, who is called for. */
    private static int[] firstDay(long seed, int trains, int shelves) {
        Draws draws = new Draws(seed);
        int[] day = {draws.of(10), 0, 0, 0, 0, 0};
        if (day[0] < trains) {
            day[1] = draws.of(9) + 1;
            day[2] = draws.of(10);
            day[3] = draws.of(10);
            day[4] = draws.of(shelves);
        }
        day[5] = draws.of(16);
        return day;
    }

    private static long seedOf(int trains, int shelves, Predicate<int[]> day) {
        for (long seed = 0; seed < 100000; seed++) {
            if (day.test(firstDay(seed, trains, shelves))) {
                return seed;
            }
        }
        C.due("a seed is found", true, false);
        return 0;
    }

    private static LeftArguments still(String text) {
        return Checks.officeWithLaw(text, "y:0");
    }

    private static void same(String name, List<String> want, List<String> got) {
        C.due("rows of " + name, want.size(), got.size());
        for (int i = 0; i < want.size() && i < got.size(); i++) {
            C.due(name + ": " + got.get(i) + ", due is " + want.get(i), true, want.get(i).equals(got.get(i)));
        }
    }

    // ---- years

    /** "YEARS by a seed: n (1 .. 60) DAYS" */
    private static void oneToSixtyDays() {
        LeftArguments x = Checks.office("b");
        C.due("one", 1, x.years(1, 9));
        C.due("sixty", 61, x.years(60, 9));
        for (int n : new int[] {0, 61, -1, LEAST, MOST}) {
            C.due("years(" + n + ")", -1, x.years(n, 9));
        }
        C.due("day", 61, x.count(5));
        C.due("no office", -1, new LeftArguments().years(1, 9));
    }

    /** "NONE: no OFFICE, out of bounds, beyond 999." */
    private static void noneBeyondTheLastDay() {
        LeftArguments x = Checks.office("s");
        for (int day = 60; day <= 960; day += 60) {
            C.due("years", day, x.years(60, day));
        }
        C.due("forty", -1, x.years(40, 1));
        C.due("none of them went by", 960, x.count(5));
        C.due("thirty-eight", 998, x.years(38, 1));
        C.due("two", -1, x.years(2, 1));
        C.due("one", 999, x.years(1, 1));
        C.due("one more", -1, x.years(1, 1));
        C.due("log", 60, x.count(8));
        C.due("one undone", 39, x.undo());
        C.due("one again", 999, x.years(1, 1));
    }

    /** "TRAINS (0 .. 9; 5 at first)", "False: out of bounds, it is so." */
    private static void trainsWithinBounds() {
        LeftArguments x = new LeftArguments();
        C.due("at first", 5, x.count(6));
        C.due("it is so", false, x.trains(5));
        for (int v = 0; v <= 9; v++) {
            C.due("trains(" + v + ")", true, x.trains(v));
            C.due("it is so", false, x.trains(v));
            for (int wrong : new int[] {-1, 10, LEAST, MOST}) {
                C.due("trains(" + wrong + ")", false, x.trains(wrong));
            }
            C.due("count(6)", v, x.count(6));
        }
    }

    /** "a draw of 10 below TRAINS" */
    private static void drawBelowTrains() {
        for (int trains = 0; trains <= 9; trains++) {
            for (int drawn = 0; drawn <= 9; drawn++) {
                int due = drawn;
                long seed = seedOf(trains, 3, day -> day[0] == due && day[5] > 7);
                LeftArguments x = still("sw60");
                x.trains(trains);
                x.years(1, seed);
                C.due("a bag by trains " + trains + ", drawn " + drawn, drawn < trains ? 1 : 0, x.most(5));
                int[] day = firstDay(seed, trains, 3);
                for (int what = 0; what < 4 && drawn < trains; what++) {
                    C.due("bag(0, " + what + ")", day[what + 1], x.bag(0, what));
                }
            }
        }
    }

    /** "x ... becomes x times .. and .. (64 bits, going round)", "shifted right by 33, without sign" */
    private static void drawsGoRound() {
        for (long seed : SEEDS) {
            for (int trains : new int[] {0, 5, 9}) {
                LeftArguments x = Checks.office("sw30n4f3k0;bz4h1;bz2a0c0h3");
                LeftArguments y = Checks.office("sw30n4f3k0;bz4h1;bz2a0c0h3");
                x.trains(trains);
                y.trains(trains);
                C.due("years(60, " + seed + ")", 60, x.years(60, seed));
                byHand(y, new Draws(seed), trains, 4, 60);
                same("bags by seed " + seed, Snapshot.bags(y), Snapshot.bags(x));
                same("log by seed " + seed, Snapshot.log(y), Snapshot.log(x));
                C.due("coins by seed " + seed, y.rule(3), x.rule(3));
            }
        }
    }

    /** The same days with what is ahead of each done by hand. */
    private static void byHand(LeftArguments y, Draws draws, int trains, int shelves, int days) {
        for (int i = 0; i < days; i++) {
            if (draws.of(10) < trains) {
                int size = draws.of(9) + 1;
                int one = draws.of(10);
                int other = draws.of(10);
                y.leave(size, one, other, draws.of(shelves));
            }
            y.call(draws.of(16));
            y.days(1);
        }
    }

    /** "such a BAG is LEFT there, if it does" */
    private static void leftIfItDoes() {
        for (int wanted = 1; wanted <= 9; wanted++) {
            int size = wanted;
            // One shelf alone: the draw of 1 is 0, yet it is a draw.
            long seed = seedOf(5, 1, day -> day[0] < 5 && day[1] == size && day[5] > 7);
            for (int beside = 20 - size - 1; beside <= 20 - size + 1; beside++) {
                LeftArguments x = still("sw20n1;bz" + beside);
                x.years(1, seed);
                C.due(size + " beside " + beside + " of 20", beside + size <= 20 ? 3 : 1, x.most(5));
            }
        }
        long seed = seedOf(5, 5, day -> day[0] < 5 && day[4] == 4 && day[5] > 7);
        LeftArguments x = still("sw60n5");
        x.years(1, seed);
        C.due("on the last shelf", 4, x.bag(0, 3));
    }

    /** "and there is a place" */
    private static void leftIfThereIsAPlace() {
        String eight = "sw60n1f1k0;bz1;bz1;bz1;bz1;bz1;bz1;bz1;bz1";
        for (int called = 0; called < 8; called++) {
            int due = called;
            long seed = seedOf(5, 1, day -> day[0] < 5 && day[1] > 1 && day[5] == due);
            LeftArguments x = still(eight);
            x.days(1);
            x.years(1, seed);
            // No place when the train comes, though one is free a moment later.
            C.due("bags", 255 - (1 << called), x.most(5));
            C.due("coins", 1, x.rule(3));
            LeftArguments y = still(eight);
            y.call(called);
            y.years(1, seed);
            // The one place goes to what comes, and that is called for at once.
            C.due("bags", 255 - (1 << called), y.most(5));
            C.due("coins", 0, y.rule(3));
        }
        long seed = seedOf(5, 1, day -> day[0] < 5 && day[5] > 7);
        LeftArguments z = still(eight);
        z.call(6);
        z.years(1, seed);
        C.due("the lowest place", 255, z.most(5));
        C.due("its size", firstDay(seed, 5, 1)[1], z.bag(6, 0));
        C.due("its last word was side 1's, who answered", 1, z.bag(6, 4));
        C.due("it was there a day", 1, z.bag(6, 5));
    }

    /** "then a draw of 16: is there a BAG in that place, it is CALLED for" */
    private static void drawOfSixteen() {
        for (int place = 0; place < 16; place++) {
            int due = place;
            long seed = seedOf(0, 3, day -> day[5] == due);
            LeftArguments x = still("sw60f2k0;bz1;bz1;bz1;bz1;bz1;bz1;bz1;bz1");
            x.trains(0);
            x.days(2);
            x.years(1, seed);
            C.due("drawn " + place, place < 8 ? 255 - (1 << place) : 255, x.most(5));
            C.due("coins", place < 8 ? 4 : 0, x.rule(3));
            LeftArguments none = still("sk3");
            none.trains(0);
            none.years(1, seed);
            C.due("nobody there", 3, none.rule(3));
            C.due("no bag", 0, none.most(5));
        }
    }

    /** "(COINS are more by that, as by hand)": 999 at most. */
    private static void calledForAsByHand() {
        long seed = seedOf(0, 3, day -> day[5] == 1);
        LeftArguments x = still("sw60f9k99;bz1;bz1");
        x.trains(0);
        x.days(60);
        x.days(39);
        x.call(0);
        C.due("coins", 990, x.rule(3));
        C.due("left", 0, x.leave(1, 0, 0, 0));
        x.years(1, seed);
        C.due("coins at most", 999, x.rule(3));
        C.due("bags", 1, x.most(5));
        x.undo();
        C.due("undone", 990, x.rule(3));
        C.due("undone", 3, x.most(5));
    }

    /** "Each DAY with what is ahead of it is one ACT." */
    private static void eachDayIsOneAct() {
        for (long seed : SEEDS) {
            LeftArguments x = Checks.office("sw30f3;bz4;bz2h1");
            LeftArguments y = Checks.office("sw30f3;bz4;bz2h1");
            x.years(60, seed);
            C.due("acts", 40, x.count(9));
            for (int left = 39; left >= 0; left--) {
                C.due("undo()", left, x.undo());
            }
            C.due("none is left", -1, x.undo());
            C.due("twenty days", 20, y.years(20, seed));
            C.due("acts", 20, y.count(9));
            same("bags", Snapshot.bags(y), Snapshot.bags(x));
            same("log", Snapshot.log(y), Snapshot.log(x));
            C.due("coins", y.rule(3), x.rule(3));
            for (int left = 19; left >= 0; left--) {
                y.undo();
            }
            same("bags", Snapshot.bags(Checks.office("sw30f3;bz4;bz2h1")), Snapshot.bags(y));
        }
    }

    /** "No STATUS." */
    private static void noStatus() {
        // Hardly any room: what comes does not, and places with none are drawn.
        LeftArguments x = still("sw1;bz1;bz1h1;bz1h2");
        x.trains(9);
        C.due("years", 60, x.years(60, 4));
        x.years(0, 1);
        x.years(61, 1);
        for (int day = 120; day <= 960; day += 60) {
            x.years(60, day);
        }
        x.years(60, 1);
        for (int what = 0; what < 5; what++) {
            C.due("status(" + what + ")", 0, x.status(what));
        }
    }

    // ---- images

    /** "An IMAGE keeps BAGS, who is HUSHED, COINS, the DAY, the LOG; BACK: they are so again" */
    private static void imageKeeps() {
        LeftArguments x = still("sw60k9f2;bz5;bz6h1;bz7h2");
        LeftArguments y = still("sw60k9f2;bz5;bz6h1;bz7h2");
        for (LeftArguments z : new LeftArguments[] {x, y}) {
            z.days(8);
            z.hush(2);
            z.move(0, 9);
        }
        C.due("image()", 8, x.image());
        x.sell(0);
        x.call(1);
        x.leave(9, 9, 9, 0);
        x.days(3);
        x.give(50);
        x.hush(0);
        x.law(-1);
        x.years(60, 3);
        C.due("back()", 8, x.back());
        x.law(0);
        same("bags", Snapshot.bags(y), Snapshot.bags(x));
        same("log", Snapshot.log(y), Snapshot.log(x));
        C.due("coins", 8, x.rule(3));
        C.due("hushed", 4, x.most(7));
        C.due("day", 8, x.count(5));
        // What an image does not keep stays as it is.
        x.image();
        x.law(-1);
        x.trains(2);
        x.seen(1, 1, 1, true);
        x.call(7);
        Checks.feed(x, "abc");
        x.back();
        C.due("no law holds", -1, x.count(4));
        C.due("trains", 2, x.count(6));
        C.due("seen", 1, x.count(7));
        C.due("status", 1, x.status(0));
        C.due("tape", 3, x.count(3));
    }

    /** "An IMAGE (instead of the one ahead)" */
    private static void imageInsteadOfTheOneAhead() {
        LeftArguments x = Checks.office("bz5");
        C.due("image of day 0", 0, x.image());
        x.days(4);
        C.due("back", 0, x.back());
        x.days(2);
        C.due("image of day 2", 2, x.image());
        x.days(1);
        C.due("back", 2, x.back());
        C.due("back again", 2, x.back());
        x.days(1);
        C.due("image of day 3", 3, x.image());
        C.due("the log of it", 3, x.count(8));
        x.back();
        C.due("day", 3, x.count(5));
    }

    /** "NONE: no IMAGE of this OFFICE.", "NONE: no OFFICE." */
    private static void imageOfThisOffice() {
        LeftArguments x = new LeftArguments();
        C.due("no office", -1, x.image());
        C.due("no image", -1, x.back());
        Checks.tell(x, "b", 0);
        C.due("no image", -1, x.back());
        x.days(1);
        C.due("image", 1, x.image());
        C.due("back", 1, x.back());
        Checks.tell(x, "b", 0);
        C.due("of the office ahead", -1, x.back());
        C.due("day", 0, x.count(5));
        C.due("image", 0, x.image());
        C.due("text with a fault", -1, Checks.tell(x, "bx", 0));
        C.due("the office stands, its image, too", 0, x.back());
    }

    /** "(no ACT can be UNDONE then)" */
    private static void noActBehindBack() {
        LeftArguments x = Checks.office("sk0;b");
        x.image();
        for (int i = 0; i < 45; i++) {
            x.give(1);
        }
        C.due("acts", 40, x.count(9));
        C.due("back", 0, x.back());
        C.due("no act", 0, x.count(9));
        C.due("undo()", -1, x.undo());
        C.due("coins", 0, x.rule(3));
        C.due("give", 1, x.give(1));
        C.due("one act", 1, x.count(9));
        C.due("undo()", 0, x.undo());
        C.due("undo()", -1, x.undo());
        C.due("coins", 0, x.rule(3));
        // An image that was made takes no act away.
        x.give(1);
        x.image();
        C.due("undo()", 0, x.undo());
        C.due("coins", 0, x.rule(3));
        x.back();
        C.due("coins of the image", 1, x.rule(3));
    }

    /** All of a full log comes back, how many days ever went by since. */
    private static void fullLogComesBack() {
        for (int since : new int[] {1, 39, 40, 41, 60, 100, 101, 160, 200}) {
            LeftArguments x = Checks.officeWithLaw("sw60;bz1", "y:z<99?1;y:0-9");
            LeftArguments y = Checks.officeWithLaw("sw60;bz1", "y:z<99?1;y:0-9");
            for (LeftArguments z : new LeftArguments[] {x, y}) {
                z.days(60);
                z.days(13);
            }
            x.image();
            for (int left = since; left > 0; left -= 60) {
                x.days(Math.min(60, left));
            }
            for (int i = 0; i < 10 && i < since; i++) {
                x.undo();
            }
            C.due("back behind " + since, 73, x.back());
            same("log behind " + since, Snapshot.log(y), Snapshot.log(x));
            x.days(1);
            y.days(1);
            same("log a day later", Snapshot.log(y), Snapshot.log(x));
        }
    }

    // ---- counts

    /** "HIDDEN for others." */
    private static void counts() {
        LeftArguments x = new LeftArguments();
        int[] none = {0, 0, 0, 0, -1, 0, 5, 0, 0, 0};
        for (int what = 0; what < none.length; what++) {
            C.due("count(" + what + ") of a new object", none[what], x.count(what));
        }
        for (int what : new int[] {-1, 10, -1000000, LEAST, MOST}) {
            C.due("count(" + what + ")", -1000000, x.count(what));
            C.due("count(" + what + ")", -1000000, Checks.office("b").count(what));
        }
    }

    /** Each count with nothing there stands above; here all is full. */
    private static void countsAtTheirMost() {
        LeftArguments x = Checks.office("sw60;bz1;bz1;bz1;bz1;bz1;bz1;bz1;bz1");
        for (int i = 0; i < 4; i++) {
            Checks.tell(x, "y:0", 1);
        }
        x.law(3);
        x.trains(9);
        for (int day = 60; day <= 960; day += 60) {
            x.days(60);
        }
        x.days(39);
        for (int i = 0; i < 10; i++) {
            x.seen(7, 9, 99, false);
        }
        Checks.feed(x, " ".repeat(240));
        int[] want = {8, 8, 4, 240, 3, 999, 9, 10, 60, 40};
        for (int what = 0; what < want.length; what++) {
            C.due("count(" + what + ")", want[what], x.count(what));
        }
    }
}
