import java.util.List;
import java.util.function.ToLongFunction;

/** The edges of bags, growth, days, acts by hand and status (part 2), one sentence of the document each. */
public final class DayBoundsTest {
    private static final Checks C = new Checks();
    private static final int LEAST = Integer.MIN_VALUE;
    private static final int MOST = Integer.MAX_VALUE;

    public static void main(String[] args) {
        eightPlaces();
        loadOfShelves();
        growthWithoutALaw();
        growthByALawIsHeld();
        whoAnswers();
        othersWithIt();
        daysThereAndTheDay();
        sizeIs99AtMostAnd0AtLeast();
        endedAtZero();
        allAsTheDayBegan();
        hushedTillTheDayIsOver();
        loadMoreThanWide();
        largestFallsFirst();
        shelvesByNumbers();
        theFloorBearsAll();
        latest60OfTheLog();
        lastDay();
        daysAtOnce();
        leftWithinBounds();
        leftWhereItStillDoes();
        lowestPlaceWithNone();
        calledFor();
        calledForAtMost999();
        movedWhereItDoes();
        movedForACoin();
        hushedForACoin();
        soldBehindSevenDays();
        soldAtMost999();
        coinsAreGiven();
        latest40Acts();
        eachActIsOne();
        eachActIsUndone();
        logIsUndone();
        statusIsNotUndone();
        ofSeveralTheFirst();
        C.finish("DayBoundsTest");
    }

    private static LeftArguments still(String text) {
        return Checks.officeWithLaw(text, "y:0");
    }

    /** An office of shelves 60 wide, still (until another law holds), on this day. */
    private static LeftArguments onDay(String text, int day) {
        LeftArguments x = still(text);
        for (int left = day; left > 0; left -= 60) {
            x.days(Math.min(60, left));
        }
        C.due("day", day, x.count(5));
        return x;
    }

    private static void status(LeftArguments x, int... want) {
        for (int what = 0; what < want.length; what++) {
            C.due("status(" + what + ")", want[what], x.status(what));
        }
    }

    // ---- bags and growth

    /** "There are eight places for BAGS, 0 .. 7: those told first, in their order; the others have none." */
    private static void eightPlaces() {
        StringBuilder text = new StringBuilder("sw60");
        for (int bags = 0; bags <= 8; bags++) {
            LeftArguments x = Checks.office(text.toString());
            for (int at = 0; at < 8; at++) {
                if (at < bags) {
                    C.due("size", at + 1, x.bag(at, 0));
                } else {
                    C.noBag(x, at, 0);
                }
            }
            C.noBag(x, -1, 0);
            C.noBag(x, 8, 0);
            C.noBag(x, LEAST, 0);
            C.noBag(x, MOST, 0);
            text.append(";bz").append(bags + 1);
        }
        LeftArguments x = Checks.office("b");
        for (int what : new int[] {-1, 8, LEAST, MOST}) {
            C.noBag(x, 0, what);
        }
    }

    /** "LOAD (of the FLOOR, too: 9). NONE: no such SHELF." */
    private static void loadOfShelves() {
        for (int shelves = 1; shelves <= 5; shelves++) {
            LeftArguments x = Checks.office("sw60n" + shelves + ";bz5h" + (shelves - 1) + ";bz30");
            C.due("the last one", shelves == 1 ? 35 : 5, x.load(shelves - 1));
            C.due("the floor", 0, x.load(9));
            for (int shelf = shelves; shelf < 9; shelf++) {
                C.due("load(" + shelf + ") of " + shelves, -1, x.load(shelf));
            }
            for (int shelf : new int[] {-1, 10, LEAST, MOST}) {
                C.due("load(" + shelf + ")", -1, x.load(shelf));
            }
            x.move(1, 9);
            C.due("the floor", 30, x.load(9));
        }
        LeftArguments none = Checks.office("s");
        C.due("an empty shelf", 0, none.load(0));
        C.due("an empty floor", 0, none.load(9));
        LeftArguments most = onDay("sw60;bz30;bz30h1;bz30h2", 7);
        most.law(Checks.tell(most, "y:9", 1));
        most.days(8);
        C.due("three of 99 fell", 297, most.load(9));
    }

    /** "STUBBORN of who answers by 2, cut, and how many other BAGS are ... with it, less 1", "held within -9 .. 9" */
    private static void growthWithoutALaw() {
        for (int stubborn = 0; stubborn <= 9; stubborn++) {
            for (int others = 0; others <= 7; others++) {
                LeftArguments x = Checks.office("sw60;bz1a0c" + stubborn + ";bz1".repeat(others));
                int want = Math.min(9, stubborn / 2 + others - 1);
                C.due("growth, " + stubborn + " with " + others, want, x.bag(0, 7));
                C.due("behind a day", Math.max(0, 1 + want), x.large(0, 1));
            }
        }
    }

    /** "WORTH by the LAW that holds, held within -9 .. 9" */
    private static void growthByALawIsHeld() {
        for (int worth = -12; worth <= 12; worth++) {
            String law = worth < 0 ? "y:0-" + -worth : "y:" + worth;
            LeftArguments x = Checks.officeWithLaw("sw60;bz30", law);
            int want = Math.max(-9, Math.min(9, worth));
            C.due("growth by " + law, want, x.bag(0, 7));
            x.days(1);
            C.due("size behind a day of " + law, 30 + want, x.bag(0, 0));
        }
        C.due("a million", 9, Checks.officeWithLaw("b", "y:1000*1000").bag(0, 7));
        C.due("a million less than none", -9, Checks.officeWithLaw("b", "y:0-1000*1000").bag(0, 7));
    }

    /** "who answers is the side that had not the LAST WORD", "a STUBBORN of who answers, o of the other side" */
    private static void whoAnswers() {
        LeftArguments x = Checks.officeWithLaw("sw60;bz1a9c0l0;bz1a9c0l1;bz1a0c9l0;bz1a0c9l1", "y:a");
        C.bags(x, 7, 0, 9, 9, 0);
        x.law(Checks.tell(x, "y:o", 1));
        C.bags(x, 7, 9, 0, 0, 9);
        x.law(-1);
        C.bags(x, 7, 2, 6, 6, 2);
        x.days(1);
        C.bags(x, 4, 1, 0, 1, 0);
        x.days(1);
        C.bags(x, 4, 0, 1, 0, 1);
    }

    /** "n how many other BAGS are with it" (on its SHELF, or on the FLOOR) */
    private static void othersWithIt() {
        LeftArguments x = Checks.officeWithLaw("sw60;bz1;bz1;bz1;bz1;bz1;bz1;bz1;bz1", "y:n");
        C.bags(x, 7, 7, 7, 7, 7, 7, 7, 7, 7);
        for (int at = 0; at < 8; at++) {
            x.move(at, 9);
            C.due("others on the floor", at, x.bag(at, 7));
            C.due("others on the shelf", at < 7 ? 6 - at : 7, x.bag(7, 7));
        }
        LeftArguments y = Checks.officeWithLaw("sw60;bz1;bz1h1;bz1h2", "y:n");
        C.bags(y, 7, 0, 0, 0);
    }

    /** "d how many DAYS it was there, t the DAY modulo 100"; "each BAG was there a DAY more (99 at most)" */
    private static void daysThereAndTheDay() {
        for (int day : new int[] {0, 1, 59, 97, 98, 99, 100, 101, 198, 199, 200, 899, 900, 998, 999}) {
            LeftArguments x = onDay("sw60;bz1", day);
            C.due("days there", Math.min(99, day), x.bag(0, 5));
            x.law(Checks.tell(x, "y:d=" + Math.min(99, day) + "?1;y:2", 1));
            C.due("d on day " + day, 1, x.bag(0, 7));
            x.law(Checks.tell(x, "y:t=" + day % 100 + "?1;y:2", 1));
            C.due("t on day " + day, 1, x.bag(0, 7));
            x.law(Checks.tell(x, "y:t/10", 1));
            C.due("t by 10 on day " + day, day % 100 / 10, x.bag(0, 7));
        }
        LeftArguments x = onDay("sw60;bz1", 100);
        C.due("left", 1, x.leave(1, 0, 0, 0));
        C.due("there 0 days", 0, x.bag(1, 5));
        x.days(1);
        C.due("there 1 day", 1, x.bag(1, 5));
        C.due("there 99 days at most", 99, x.bag(0, 5));
    }

    // ---- a day

    /** "SIZE is more by its GROWTH ... (99 at most" */
    private static void sizeIs99AtMostAnd0AtLeast() {
        // Behind seven days of 9 the size is 93.
        for (int more = 0; more <= 9; more++) {
            LeftArguments x = Checks.officeWithLaw("sw60;bz30", "y:9");
            x.days(7);
            C.due("size", 93, x.bag(0, 0));
            x.law(Checks.tell(x, "y:" + more, 1));
            C.due("large", Math.min(99, 93 + more), x.large(0, 1));
            x.days(1);
            C.due("93 and " + more, Math.min(99, 93 + more), x.bag(0, 0));
            x.days(9);
            C.due("99 at most", more == 0 ? 93 : 99, x.bag(0, 0));
        }
    }

    /** "0 at least)", "a BAG with SIZE 0 has ENDED: its place has none" */
    private static void endedAtZero() {
        for (int size = 1; size <= 11; size++) {
            LeftArguments x = Checks.officeWithLaw("sw60;bz" + size, "y:0-9");
            x.days(1);
            C.due("sizes together", Math.max(0, size - 9), x.most(8));
            C.due("ended", size <= 9 ? 1 : 0, x.log(0, 1));
            C.due("bags", size <= 9 ? 0 : 1, x.most(5));
            if (size <= 9) {
                C.noBag(x, 0, 0);
                C.due("its place is free", 0, x.leave(30, 1, 1, 0));
                C.due("there 0 days", 0, x.bag(0, 5));
            }
        }
    }

    /** "all as the DAY began" */
    private static void allAsTheDayBegan() {
        // The first ends, the second falls: the third still grows by both.
        LeftArguments x = Checks.officeWithLaw("sw20n1;bz1;bz19;bz5", "y:z<2?0-9;y:n");
        x.days(1);
        C.due("ended", 1, x.log(0, 1));
        C.due("fell", 2, x.log(0, 0));
        C.due("size of the second", 21, x.bag(1, 0));
        C.due("size of the third", 7, x.bag(2, 0));
        C.due("sizes", 28, x.log(0, 2));
        C.due("growth now", 0, x.bag(2, 7));
        C.due("letters are those of the day that began", 3, Checks.officeWithLaw("b", "y:t+d").large(0, 1));
    }

    /** "each BAG that is not HUSHED", "nobody is HUSHED" behind it */
    private static void hushedTillTheDayIsOver() {
        LeftArguments x = Checks.officeWithLaw("sw60;bz5;bz1h1;bz30h2", "y:z=1?0-1;y:9");
        x.hush(0);
        x.hush(1);
        C.due("hushed", 3, x.most(7));
        x.days(1);
        C.due("hushed", 0, x.most(7));
        C.bags(x, 0, 5, 1, 39);
        C.bags(x, 4, 0, 0, 1);
        C.bags(x, 5, 1, 1, 1);
        C.due("it can be again", 17, x.hush(0));
        x.days(2);
        C.due("one day alone", 14, x.bag(0, 0));
        C.noBag(x, 1, 0);
        // Hushed ones can fall, too.
        LeftArguments y = Checks.officeWithLaw("sw9;bz9;bz1", "y:0");
        y.hush(0);
        y.days(1);
        C.due("fell", 1, y.log(0, 0));
    }

    /** "as long as LOAD is more than it is WIDE" */
    private static void loadMoreThanWide() {
        for (int wide : new int[] {1, 2, 29, 30}) {
            LeftArguments fits = still("sw" + wide + ";bz" + wide);
            fits.days(1);
            C.due("just as wide", 0, fits.log(0, 0));
            C.due("its shelf", 0, fits.bag(0, 3));
            LeftArguments more = Checks.officeWithLaw("sw" + wide + ";bz" + wide, "y:1");
            more.days(1);
            C.due("more by 1", 1, more.log(0, 0));
            C.due("the floor", 9, more.bag(0, 3));
        }
        LeftArguments sixty = still("sw60;bz30;bz30");
        sixty.days(1);
        C.due("60 on 60", 0, sixty.log(0, 0));
        LeftArguments beyond = still("sw60;bz30;bz30;bz1");
        beyond.days(1);
        C.due("61 on 60", 1, beyond.log(0, 0));
        C.due("load", 31, beyond.load(0));
        // What ended is no load any more; what shrinks neither.
        LeftArguments ends = Checks.officeWithLaw("sw9;bz9;bz1;bz1", "y:z=1?0-1;y:0");
        ends.days(1);
        C.due("fell", 0, ends.log(0, 0));
    }

    /** "the largest BAG on it (of several that in the lowest place) FALLS to the FLOOR" */
    private static void largestFallsFirst() {
        String[] texts = {"sw9;bz4;bz5;bz5", "sw9;bz5;bz4;bz5", "sw9;bz5;bz5;bz4", "sw8;bz5;bz5;bz4", "sw4;bz5;bz5;bz4",
            "sw3;bz5;bz5;bz4", "sw13;bz5;bz5;bz4", "sw14;bz5;bz5;bz4", "sw1;bz1;bz1;bz1;bz1;bz1;bz1;bz1;bz1"};
        int[] fell = {2, 1, 1, 3, 3, 7, 1, 0, 127};
        for (int i = 0; i < texts.length; i++) {
            LeftArguments x = still(texts[i]);
            x.days(1);
            C.due("fell of " + texts[i], fell[i], x.log(0, 0));
            C.due("on the floor of " + texts[i], fell[i], x.most(6));
        }
    }

    /** "of each SHELF by numbers" */
    private static void shelvesByNumbers() {
        LeftArguments x = still("sw10n5;bz11h4;bz11h3;bz10h2;bz11h1;bz11;bz1");
        x.days(1);
        C.due("fell", 0b011011, x.log(0, 0));
        C.due("the last shelf is empty", 0, x.load(4));
        C.due("the one just full is not", 10, x.load(2));
        C.due("the first keeps the small one", 1, x.load(0));
    }

    /** What lies on the FLOOR falls no more, whatever it is. */
    private static void theFloorBearsAll() {
        LeftArguments x = Checks.officeWithLaw("sw1n1;bz30;bz30", "y:9");
        x.days(1);
        C.due("both fell", 3, x.log(0, 0));
        x.days(9);
        C.due("none more", 0, x.log(0, 0));
        C.due("load", 198, x.load(9));
        C.due("log", 198, x.log(0, 2));
    }

    /** "the LOG: which FELL ..., which ENDED ..., SIZES of all together (the latest 60)" */
    private static void latest60OfTheLog() {
        LeftArguments x = Checks.officeWithLaw("sw60;bz1", "y:1");
        C.due("no day yet", 0, x.count(8));
        C.due("no day yet", -1, x.log(0, 2));
        for (int day = 1; day <= 62; day++) {
            x.days(1);
            int length = Math.min(60, day);
            C.due("length", length, x.count(8));
            C.due("the latest", day + 1, x.log(0, 2));
            C.due("the oldest", day - length + 2, x.log(length - 1, 2));
            C.due("none behind it", -1, x.log(length, 2));
        }
        for (int[] w : new int[][] {{-1, 0}, {60, 0}, {0, -1}, {0, 3}, {LEAST, 0}, {MOST, 0}, {0, LEAST}, {0, MOST}}) {
            C.due("log(" + w[0] + ", " + w[1] + ")", -1, x.log(w[0], w[1]));
        }
        LeftArguments y = still("sw1n1;bz30;bz30;bz30;bz30;bz30;bz30;bz30;bz30");
        y.days(1);
        C.due("all eight fell", 255, y.log(0, 0));
        y.law(Checks.tell(y, "y:0-9", 1));
        y.days(4);
        C.due("all eight ended", 255, y.log(0, 1));
        C.due("nothing is left", 0, y.log(0, 2));
        y.days(1);
        C.due("a day without bags", 0, y.log(0, 1));
        C.due("a day without bags", 6, y.count(8));
    }

    /** "A DAY (0 at first; 999 at most: none goes by then)", "beyond the last DAY (4)" */
    private static void lastDay() {
        LeftArguments x = onDay("sw60;bz1", 998);
        C.due("beyond", -1, x.days(2));
        C.due("none of both went by", 998, x.count(5));
        C.due("years beyond", -1, x.years(2, 1));
        C.due("the last one", 999, x.days(1));
        C.due("one more", -1, x.days(1));
        C.due("years, one more", -1, x.years(1, 1));
        C.due("sixty more", -1, x.days(60));
        C.due("it stays", 999, x.count(5));
        status(x, 0, 0, 0, 0, 3);
        C.due("log", 60, x.count(8));
        C.due("other acts go on", 1, x.leave(1, 0, 0, 0));
        C.due("hush", 19, x.hush(1));
        x.undo();
        x.undo();
        x.undo();
        C.due("the last day is undone", 998, x.count(5));
        C.due("and goes by again", 999, x.days(1));
        LeftArguments y = onDay("sw60;bz1", 940);
        C.due("sixty beyond", -1, y.days(60));
        C.due("fifty-nine", 999, y.days(59));
        C.due("a new office", 0, Checks.tell(y, "s", 0));
        C.due("its days", 60, y.days(60));
    }

    /** "DAYS (1 .. 60)" */
    private static void daysAtOnce() {
        LeftArguments x = Checks.officeWithLaw("sw60;bz1", "y:1");
        C.due("days(1)", 1, x.days(1));
        C.due("days(60)", 61, x.days(60));
        C.due("each day grew", 62, x.bag(0, 0));
        for (int n : new int[] {0, 61, -1, LEAST, MOST}) {
            C.due("days(" + n + ")", -1, x.days(n));
        }
        status(x, 0, 5, 0, 0, 0);
        C.due("day", 61, x.count(5));
        LeftArguments none = new LeftArguments();
        C.due("no office", -1, none.days(1));
        C.due("no office, out of bounds", -1, none.days(61));
        status(none, 2, 0, 0, 0, 0);
    }

    // ---- by hand

    /** "A BAG is LEFT (SIZE 1 .. 30, STUBBORN 0 .. 9 each, on a SHELF ..." */
    private static void leftWithinBounds() {
        for (int shelves = 1; shelves <= 5; shelves++) {
            LeftArguments x = Checks.office("sw60n" + shelves);
            C.due("the least", 0, x.leave(1, 0, 0, 0));
            C.due("the most", 1, x.leave(30, 9, 9, shelves - 1));
            int[] want = {30, 9, 9, shelves - 1, 0, 0, 0};
            for (int what = 0; what < want.length; what++) {
                C.due("bag(1, " + what + ")", want[what], x.bag(1, what));
            }
            for (int shelf : new int[] {-1, shelves, 9, LEAST, MOST}) {
                C.due("shelf " + shelf, -1, x.leave(1, 0, 0, shelf));
            }
            for (int size : new int[] {0, 31, -1, LEAST, MOST}) {
                C.due("size " + size, -1, x.leave(size, 0, 0, 0));
            }
            for (int side : new int[] {-1, 10, LEAST, MOST}) {
                C.due("side 0 " + side, -1, x.leave(1, side, 0, 0));
                C.due("side 1 " + side, -1, x.leave(1, 0, side, 0));
            }
            status(x, 0, 18, 0, 0, 0);
            C.due("bags", 3, x.most(5));
        }
    }

    /** "on a SHELF where it still does, LOAD and SIZE not more than WIDE" */
    private static void leftWhereItStillDoes() {
        for (int wide : new int[] {1, 10, 20, 29, 30}) {
            LeftArguments x = Checks.office("sw" + wide + "n1");
            C.due("one too large for " + wide, -1, x.leave(Math.min(31, wide + 1), 0, 0, 0));
            C.due("just as wide as " + wide, 0, x.leave(wide, 0, 0, 0));
            C.due("one beside it", -1, x.leave(1, 0, 0, 0));
            status(x, 0, wide == 30 ? 1 : 0, 0, wide == 30 ? 1 : 2, 0);
        }
        LeftArguments x = Checks.office("sw60n1;bz30;bz20");
        C.due("11 on 50 of 60", -1, x.leave(11, 0, 0, 0));
        C.due("10 on 50 of 60", 2, x.leave(10, 0, 0, 0));
        C.due("1 on 60 of 60", -1, x.leave(1, 0, 0, 0));
        x.move(0, 9);
        C.due("the floor is no load of it", 3, x.leave(30, 0, 0, 0));
        // Where there is too much already nothing does.
        LeftArguments y = Checks.office("sw10n2;bz11");
        C.due("on 11 of 10", -1, y.leave(1, 0, 0, 0));
        C.due("beside it", 1, y.leave(10, 0, 0, 1));
    }

    /** "the lowest place with none has it", "no place (3)" */
    private static void lowestPlaceWithNone() {
        String eight = "sw60n1;bz1;bz2;bz3;bz4;bz5;bz6;bz7;bz8";
        for (int bits = 0; bits < 256; bits++) {
            LeftArguments x = Checks.office(eight);
            for (int at = 0; at < 8; at++) {
                if ((bits >> at & 1) == 0) {
                    x.call(at);
                }
            }
            int lowest = Integer.numberOfTrailingZeros(~bits);
            C.due("beside " + bits, lowest < 8 ? lowest : -1, x.leave(9, 1, 2, 0));
            C.due("status", lowest < 8 ? 0 : 1, x.status(3));
            C.due("bags", lowest < 8 ? bits | 1 << lowest : bits, x.most(5));
        }
        // Nothing of what was in the place clings to what is left there: days, hushed, last word.
        LeftArguments x = onDay("sw60;bz1;bz2l1;bz3", 1);
        x.hush(1);
        x.call(1);
        C.due("left", 1, x.leave(4, 5, 6, 2));
        int[] want = {4, 5, 6, 2, 0, 0, 0};
        for (int what = 0; what < want.length; what++) {
            C.due("bag(1, " + what + ")", want[what], x.bag(1, what));
        }
        C.due("nobody is hushed", 0, x.most(7));
    }

    /** "COINS more by PENCE for each DAY it was there" */
    private static void calledFor() {
        for (int pence = 0; pence <= 9; pence++) {
            for (int day : new int[] {0, 1, 10, 99, 100}) {
                LeftArguments x = onDay("sw60k0f" + pence + ";bz1;bz2h1", day);
                int want = pence * Math.min(99, day);
                C.due("called for", want, x.call(0));
                C.due("coins", want, x.rule(3));
                C.noBag(x, 0, 0);
                C.due("again", -1, x.call(0));
                status(x, 1, 0, 0, 0, 0);
                C.due("the other one stays", 2, x.most(5));
            }
        }
    }

    /** "(999 at most)", "COINS that it brought (also beyond 999)" */
    private static void calledForAtMost999() {
        for (int given = 0; given <= 2; given++) {
            LeftArguments x = onDay("sw60k98f9;bz1;bz2h1", 99);
            C.due("99 days at 9", 891, x.call(0));
            C.due("coins", 989, x.rule(3));
            if (given > 0) {
                x.give(given);
            }
            C.due("left", 0, x.leave(1, 0, 0, 0));
            x.days(1);
            C.due("one day at 9", 9, x.call(0));
            C.due("998, 999 and no more", Math.min(999, 998 + given), x.rule(3));
            C.due("it brings 891 anyhow", 891, x.call(1));
            C.due("coins at most", 999, x.rule(3));
            x.undo();
            C.due("undone", Math.min(999, 998 + given), x.rule(3));
            x.undo();
            C.due("undone", 989 + given, x.rule(3));
        }
    }

    /** "A BAG is MOVED to another SHELF where it does" */
    private static void movedWhereItDoes() {
        LeftArguments x = Checks.office("sw10n2k9;bz4;bz5;bz6h1");
        C.due("5 to 6 of 10", -1, x.move(1, 1));
        status(x, 0, 0, 0, 1, 0);
        C.due("4 to 6 of 10", 0, x.move(0, 1));
        C.due("a coin", 8, x.rule(3));
        C.due("where it was", 1, x.move(0, 0));
        C.due("it is there", -1, x.move(0, 0));
        status(x, 0, 0, 1, 1, 0);
        C.due("to the floor", 1, x.move(2, 9));
        C.due("it is there", -1, x.move(2, 9));
        status(x, 0, 0, 2, 1, 0);
        C.due("6 from the floor to 9 of 10", -1, x.move(2, 0));
        C.due("6 from the floor to 0 of 10", 9, x.move(2, 1));
        for (int shelf : new int[] {-1, 2, 8, 10, LEAST, MOST}) {
            C.due("no shelf " + shelf, -1, x.move(0, shelf));
        }
        status(x, 0, 6, 2, 2, 0);
        for (int at : new int[] {-1, 3, 8, LEAST, MOST}) {
            C.due("none in " + at, -1, x.move(at, 1));
            C.due("none in " + at + ", no shelf", -1, x.move(at, 7));
        }
        status(x, 10, 6, 2, 2, 0);
        // A bag wider than all shelves does nowhere but on the floor.
        LeftArguments y = Checks.office("sw10;bz11");
        C.due("11 on 10", -1, y.move(0, 1));
        C.due("the floor", 0, y.move(0, 9));
    }

    /** "(a COIN), or to the FLOOR (9; for nothing)", "too few COINS" */
    private static void movedForACoin() {
        LeftArguments x = Checks.office("sk1;bz1;bz2");
        C.due("the last coin", 0, x.move(0, 1));
        C.due("none is left", 0, x.rule(3));
        C.due("no coin", -1, x.move(0, 2));
        C.due("shelf", 1, x.bag(0, 3));
        C.due("for nothing", 1, x.move(0, 9));
        C.due("coins", 0, x.rule(3));
        C.due("no coin", -1, x.move(0, 0));
        status(x, 0, 0, 0, 2, 0);
        x.give(1);
        C.due("a coin again", 9, x.move(0, 0));
        C.due("no coin: none", 0, x.rule(3));
    }

    /** "A BAG is HUSHED with the lamp till the DAY is over (a COIN; not twice)" */
    private static void hushedForACoin() {
        LeftArguments x = Checks.office("sk2;bz5;bz6h1;bz7h2");
        C.due("coins then", 1, x.hush(2));
        C.due("twice", -1, x.hush(2));
        C.due("coins", 1, x.rule(3));
        C.due("coins then", 0, x.hush(0));
        C.due("no coin", -1, x.hush(1));
        C.due("twice, and no coin", -1, x.hush(0));
        for (int at : new int[] {-1, 3, 8, LEAST, MOST}) {
            C.due("none in " + at, -1, x.hush(at));
        }
        status(x, 5, 0, 2, 1, 0);
        C.due("hushed", 5, x.most(7));
        x.days(1);
        C.due("no coin", -1, x.hush(0));
        C.due("hushed", 0, x.most(7));
    }

    /** "A BAG there 7 DAYS or more is SOLD", "it was there less than 7 DAYS (2)" */
    private static void soldBehindSevenDays() {
        for (int day : new int[] {0, 1, 6, 7, 8, 99, 100}) {
            LeftArguments x = onDay("sw60k3;bz30", day);
            C.due("sold behind " + day, day < 7 ? -1 : 30, x.sell(0));
            C.due("coins", day < 7 ? 3 : 33, x.rule(3));
            C.due("bags", day < 7 ? 1 : 0, x.most(5));
            status(x, 0, 0, day < 7 ? 1 : 0, 0, 0);
            C.due("once more", -1, x.sell(0));
            status(x, day < 7 ? 0 : 1, 0, day < 7 ? 2 : 0, 0, 0);
        }
        LeftArguments x = onDay("sw60;bz1;bz2", 7);
        for (int at : new int[] {-1, 2, 8, LEAST, MOST}) {
            C.due("none in " + at, -1, x.sell(at));
        }
        status(x, 5, 0, 0, 0, 0);
        x.leave(3, 1, 1, 0);
        x.days(6);
        C.due("left 6 days ago", -1, x.sell(2));
        x.days(1);
        C.due("left 7 days ago", 3, x.sell(2));
    }

    /** "COINS more by its SIZE (999 at most)" */
    private static void soldAtMost999() {
        for (int missing = 1; missing <= 4; missing++) {
            LeftArguments x = onDay("sw60k99;bz3", 7);
            for (int i = 0; i < 17; i++) {
                x.give(50);
            }
            x.give(50 - missing);
            C.due("coins", 999 - missing, x.rule(3));
            C.due("its size anyhow", 3, x.sell(0));
            C.due("coins at most", Math.min(999, 1002 - missing), x.rule(3));
        }
    }

    /** "COINS are given (1 .. 50; 999 at most)", "above 999 (1)" */
    private static void coinsAreGiven() {
        LeftArguments x = Checks.office("sk0");
        C.due("give(1)", 1, x.give(1));
        C.due("give(50)", 51, x.give(50));
        for (int n : new int[] {0, 51, -1, LEAST, MOST}) {
            C.due("give(" + n + ")", -1, x.give(n));
        }
        status(x, 0, 5, 0, 0, 0);
        for (int coins = 101; coins <= 951; coins += 50) {
            C.due("give(50)", coins, x.give(50));
        }
        C.due("above 999", -1, x.give(49));
        C.due("none of them came", 951, x.rule(3));
        C.due("just 999", 999, x.give(48));
        C.due("above 999", -1, x.give(1));
        status(x, 0, 7, 0, 0, 0);
        LeftArguments none = new LeftArguments();
        C.due("no office", -1, none.give(1));
        C.due("no office", -1, none.give(51));
        status(none, 2, 0, 0, 0, 0);
    }

    // ---- acts, status

    /** "the latest 40 can be UNDONE one by one" */
    private static void latest40Acts() {
        for (int acts : new int[] {0, 1, 39, 40, 41, 80, 81, 100}) {
            LeftArguments x = Checks.office("sk0");
            for (int i = 0; i < acts; i++) {
                C.due("give(2)", 2 * i + 2, x.give(2));
            }
            int kept = Math.min(40, acts);
            C.due("acts", kept, x.count(9));
            for (int left = kept - 1; left >= 0; left--) {
                C.due("undo()", left, x.undo());
                C.due("coins", 2 * (acts - kept + left), x.rule(3));
            }
            C.due("none is left", -1, x.undo());
            C.due("coins", 2 * (acts - kept), x.rule(3));
            C.due("acts", 0, x.count(9));
            C.due("and on", 2 * (acts - kept) + 1, x.give(1));
            C.due("acts", 1, x.count(9));
        }
    }

    /** "All these (each DAY) are ACTS" */
    private static void eachActIsOne() {
        LeftArguments x = onDay("sw60k9;bz5;bz6h1;bz7h2", 7);
        C.due("each day", 7, x.count(9));
        x.leave(1, 1, 1, 0);
        C.due("left", 8, x.count(9));
        x.call(3);
        C.due("called for", 9, x.count(9));
        x.move(0, 1);
        C.due("moved", 10, x.count(9));
        x.move(0, 9);
        C.due("moved to the floor", 11, x.count(9));
        x.hush(1);
        C.due("hushed", 12, x.count(9));
        x.sell(2);
        C.due("sold", 13, x.count(9));
        x.give(1);
        C.due("given", 14, x.count(9));
        x.years(3, 5);
        C.due("three days of years", 17, x.count(9));
        x.days(3);
        C.due("three days", 20, x.count(9));
        // None of these is one.
        x.trains(1);
        x.law(-1);
        x.seen(0, 1, 1, true);
        x.image();
        x.give(0);
        Checks.tell(x, "y:1", 1);
        C.due("no acts", 20, x.count(9));
    }

    /** Day 12, 998 coins; 20 (hushed) and 9 on shelf 0, 9 (hushed) on 1, 7 on the floor. */
    private static LeftArguments busy() {
        LeftArguments x = onDay("sw30n2f9k99;bz20a9c9;bz9h1;bz7h1l1;bz9", 12);
        holds(x, "y:z=7?0-9;y:9");
        for (int i = 0; i < 18; i++) {
            x.give(50);
        }
        x.hush(1);
        x.move(2, 9);
        x.hush(0);
        x.give(1);
        C.due("coins", 998, x.rule(3));
        C.due("one falls", 1, x.falls(0));
        C.due("one ends", 1, x.ends(2));
        return x;
    }

    private static void holds(LeftArguments x, String law) {
        C.due("law " + law, true, x.law(Checks.tell(x, law, 1)));
    }

    private static void undone(String name, ToLongFunction<LeftArguments> act) {
        LeftArguments x = busy();
        List<String> before = Snapshot.now(x);
        LeftArguments y = busy();
        int acts = y.count(9);
        C.due(name + " is not refused", true, act.applyAsLong(y) != -1);
        C.due(name + " is one more", acts + 1, y.count(9));
        C.due(name + " changes something", false, before.equals(Snapshot.now(y)));
        C.due(name + " undone", acts, y.undo());
        List<String> behind = Snapshot.now(y);
        for (int i = 0; i < before.size() && i < behind.size(); i++) {
            C.due(name + " undone: " + behind.get(i) + ", due is " + before.get(i), true,
                    before.get(i).equals(behind.get(i)));
        }
        C.due("rows", before.size(), behind.size());
    }

    /** What an act changes is as it was when it is undone, whichever act. */
    private static void eachActIsUndone() {
        undone("a day", x -> x.days(1));
        undone("a year's day", x -> x.years(1, 3));
        undone("left", x -> x.leave(5, 1, 2, 1));
        undone("called for", x -> x.call(1));
        undone("called for, hushed", x -> x.call(0));
        undone("moved", x -> x.move(3, 1));
        undone("moved to the floor", x -> x.move(1, 9));
        undone("moved from the floor", x -> x.move(2, 1));
        undone("hushed", x -> x.hush(3));
        undone("sold beyond 999", x -> x.sell(0));
        undone("given", x -> x.give(1));
    }

    /** "can be UNDONE one by one (LOG, too)" */
    private static void logIsUndone() {
        LeftArguments x = Checks.officeWithLaw("sw9;bz1;bz5", "y:z<99?1");
        x.days(60);
        x.days(60);
        for (int day = 119; day >= 80; day--) {
            x.undo();
            LeftArguments fresh = Checks.officeWithLaw("sw9;bz1;bz5", "y:z<99?1");
            fresh.days(60);
            fresh.days(day - 60);
            C.due("length of the log", 60, x.count(8));
            for (int i : new int[] {0, 1, 30, 58, 59}) {
                C.due("log(" + i + ", 2) on day " + day, fresh.log(i, 2), x.log(i, 2));
            }
            C.due("no more", -1, x.log(60, 0));
        }
        C.due("no act is left", -1, x.undo());
        LeftArguments y = Checks.officeWithLaw("sw9n1;bz9", "y:t=0?1;y:0-9");
        y.days(3);
        C.due("ended", 1, y.log(0, 1));
        y.undo();
        C.due("not ended", 0, y.log(0, 1));
        C.due("log", 2, y.count(8));
        y.undo();
        C.due("fell", 1, y.log(0, 0));
        y.undo();
        C.due("no log", 0, y.count(8));
        C.due("no log", -1, y.log(0, 0));
        C.due("on its shelf", 0, y.bag(0, 3));
    }

    /** "not UNDONE" of STATUS */
    private static void statusIsNotUndone() {
        LeftArguments x = Checks.office("sk1;bz1");
        x.give(1);
        x.call(5);
        x.days(0);
        x.move(0, 0);
        x.leave(30, 1, 1, 0);
        x.give(1);
        x.undo();
        x.undo();
        status(x, 1, 1, 1, 1, 0);
        C.due("image", 0, x.image());
        x.call(5);
        x.back();
        status(x, 2, 1, 1, 1, 0);
        Checks.tell(x, "b", 0);
        status(x, 2, 1, 1, 1, 0);
        for (int what : new int[] {-1, 5, LEAST, MOST}) {
            C.due("status(" + what + ")", -1, x.status(what));
        }
    }

    /** "of several the first" */
    private static void ofSeveralTheFirst() {
        LeftArguments x = Checks.office("sw10n1k0;bz5;bz1;bz1;bz1;bz1;bz1");
        // None there, then no such shelf.
        x.move(6, 1);
        status(x, 1, 0, 0, 0, 0);
        // No such shelf, then no coin and no room.
        x.move(0, 1);
        status(x, 1, 1, 0, 0, 0);
        // It is there, then no coin.
        x.move(0, 0);
        status(x, 1, 1, 1, 0, 0);
        // Out of bounds, then no room.
        x.leave(31, 0, 0, 0);
        status(x, 1, 2, 1, 0, 0);
        // No such shelf, then no room.
        x.leave(30, 0, 0, 1);
        status(x, 1, 3, 1, 0, 0);
        // No room, and, with eight, no place: the same.
        x.leave(1, 0, 0, 0);
        status(x, 1, 3, 1, 1, 0);
        // Hushed, then no coin.
        x.give(1);
        x.hush(0);
        x.hush(0);
        status(x, 1, 3, 2, 1, 0);
        LeftArguments y = onDay("sw60", 999);
        y.days(61);
        status(y, 0, 1, 0, 0, 0);
        y.days(60);
        status(y, 0, 1, 0, 0, 1);
    }
}
