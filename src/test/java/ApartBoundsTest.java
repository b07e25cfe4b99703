/** The edges of what is answered apart (part 3; promises 22 to 37), one sentence of the document each. */
public final class ApartBoundsTest {
    private static final Checks C = new Checks();
    private static final int LEAST = Integer.MIN_VALUE;
    private static final int MOST = Integer.MAX_VALUE;
    private static final int[] NO_PLACES = {-1, 2, 7, 8, LEAST, MOST};

    public static void main(String[] args) {
        largeWithinBounds();
        largeOfEndedIsZero();
        daysGoOnBehind999();
        coinsDoNotMatter();
        endsWithin99();
        fallsWithin99();
        fallsFirst();
        shelvedByRoom();
        shelvedByNone();
        shelvedOnTheFewest();
        setOffTwoApart();
        setOffAsStubborn();
        apartOnEightShelves();
        apartWhateverLoad();
        roarOfSeveralTheLeast();
        tenSeenAtMost();
        seenWithinBounds();
        sizesByMarks();
        sizesOfEnded();
        sizesAloneAsTold();
        askWithinBounds();
        askOfSeveralTheLeast();
        saleWithinBounds();
        saleOfRipeOnes();
        saleOfFewest();
        gameWithinBounds();
        gameIsStubborn0AtLeast();
        gameThatEnds();
        gameOfItAlone();
        restsByNumbers();
        oddsWithinBounds();
        oddsAreCut();
        oddsOfHushed();
        sharesAreCut();
        mostOfNone();
        mostOfSeveralTheLowest();
        fullestOfSeveralTheLowest();
        roomOfOneWithMore();
        ripeAndDue();
        quarrelsOfEachTwo();
        C.finish("ApartBoundsTest");
    }

    private static LeftArguments still(String text) {
        return Checks.officeWithLaw(text, "y:0");
    }

    private static LeftArguments onDay(String text, int day) {
        LeftArguments x = still(text);
        for (int left = day; left > 0; left -= 60) {
            x.days(Math.min(60, left));
        }
        C.due("day", day, x.count(5));
        return x;
    }

    private static void holds(LeftArguments x, String law) {
        C.due("law " + law, true, x.law(Checks.tell(x, law, 1)));
    }

    // ---- large, ends, falls

    /** "LARGE: SIZE of a BAG behind n (0 .. 99) DAYS" */
    private static void largeWithinBounds() {
        LeftArguments x = Checks.officeWithLaw("sw60;bz1;bz30h1", "y:z<99?1");
        for (int n = 0; n <= 99; n++) {
            C.due("large(0, " + n + ")", Math.min(99, 1 + n), x.large(0, n));
        }
        C.due("99 at most", 99, x.large(1, 99));
        for (int n : new int[] {-1, 100, LEAST, MOST}) {
            C.due("large(0, " + n + ")", -1, x.large(0, n));
        }
        for (int at : NO_PLACES) {
            C.due("large(" + at + ", 0)", -1, x.large(at, 0));
        }
        C.due("day", 0, x.count(5));
    }

    /** "(ENDED by then: 0)", "NONE: none there now" */
    private static void largeOfEndedIsZero() {
        LeftArguments x = Checks.officeWithLaw("sw60;bz3;bz30h1", "y:0-1");
        int[] sizes = {3, 2, 1, 0, 0};
        for (int n = 0; n < sizes.length; n++) {
            C.due("large(0, " + n + ")", sizes[n], x.large(0, n));
        }
        C.due("large(0, 99)", 0, x.large(0, 99));
        C.due("large(1, 29)", 1, x.large(1, 29));
        C.due("large(1, 30)", 0, x.large(1, 30));
        x.days(3);
        C.due("none there now", -1, x.large(0, 0));
        C.due("none there now", -1, x.large(0, 99));
    }

    /** "(Apart, from as it is now; ... DAYS go on behind 999.)" */
    private static void daysGoOnBehind999() {
        LeftArguments x = onDay("sw32;bz1;bz30h1;bz9h2", 999);
        holds(x, "y:t=0?5;y:t=98?0-9;y:0");
        C.due("day 999, t 99", 1, x.large(0, 1));
        C.due("day 1000, t 0", 6, x.large(0, 2));
        C.due("day 1097, t 97", 6, x.large(0, 99));
        C.due("not within 99", -1, x.ends(2));
        holds(x, "y:t=97?0-9;y:0");
        C.due("ends on day 1097", 99, x.ends(2));
        holds(x, "y:t=97?9;y:t=0?2;y:t=2?0-1;y:0");
        C.due("falls on day 1097; 32 on 32 did", 99, x.falls(1));
        C.due("odds", 1000000000, x.odds(0, 2, 3, 0));
        C.due("odds", 0, x.odds(0, 1, 3, 0));
        C.due("game", 30 - 3 + 3, x.game(0, 0, 0, 0));
        C.due("game", 30 - 3, x.game(0, 0, 0, 1));
        C.due("day", 999, x.count(5));
    }

    /** "COINS do not matter" */
    private static void coinsDoNotMatter() {
        LeftArguments x = still("sk0;bz5");
        C.due("odds without a coin", 500000000, Checks.officeWithLaw("sk0;bz5", "y:1").odds(0, 1, 6, 50));
        C.due("shelved without a coin", 0, x.shelved(0));
        x.days(7);
        C.due("sale without a coin", 1, x.sale(5));
    }

    /** "ENDS of a BAG: in how many DAYS (1 .. 99) it has ENDED first" */
    private static void endsWithin99() {
        for (int day : new int[] {1, 2, 50, 98, 99, 100}) {
            LeftArguments x = Checks.officeWithLaw("sw60;bz9;bz9h1", "y:d=" + (day - 1) + "?0-9;y:0");
            C.due("ends on day " + day, day <= 99 ? day : -1, x.ends(0));
            x.days(1);
            C.due("a day later", day == 1 ? -1 : day - 1, x.ends(0));
        }
        LeftArguments x = Checks.officeWithLaw("sw60;bz1;bz9h1", "y:0-1");
        C.due("ends(0)", 1, x.ends(0));
        C.due("ends(1)", 9, x.ends(1));
        x.hush(0);
        C.due("hushed on the first day", 2, x.ends(0));
        for (int at : NO_PLACES) {
            C.due("ends(" + at + ")", -1, x.ends(at));
        }
        C.due("never", -1, still("b").ends(0));
    }

    /** "FALLS of a BAG that is on a SHELF: in how many DAYS (1 .. 99)" */
    private static void fallsWithin99() {
        for (int day : new int[] {1, 2, 50, 98, 99, 100}) {
            LeftArguments x = Checks.officeWithLaw("sw20;bz20;bz20h1", "y:d=" + (day - 1) + "?1;y:0");
            C.due("falls on day " + day, day <= 99 ? day : -1, x.falls(0));
            x.days(1);
            C.due("a day later", day == 1 ? -1 : day - 1, x.falls(0));
        }
        LeftArguments x = Checks.officeWithLaw("sw20;bz20;bz20h1", "y:1");
        for (int at : NO_PLACES) {
            C.due("falls(" + at + ")", -1, x.falls(at));
        }
        C.due("falls(0)", 1, x.falls(0));
        x.hush(0);
        C.due("hushed on the first day", 2, x.falls(0));
        x.move(0, 9);
        C.due("on the floor", -1, x.falls(0));
        C.due("never", -1, still("b").falls(0));
        C.due("too much already", 1, still("sw2;b").falls(0));
    }

    /** "it FALLS first" */
    private static void fallsFirst() {
        // The larger one falls as both are too much; the other one ten days later, by itself.
        LeftArguments x = Checks.officeWithLaw("sw20;bz10;bz11;bz1h1", "y:z>20?0;y:z>9?1;y:0-1");
        C.due("the larger one", 1, x.falls(1));
        C.due("the other one", 11, x.falls(0));
        C.due("it ends", -1, x.falls(2));
    }

    // ---- shelved, sets, apart, roar

    private static void shelved(String text, int row, int number) {
        LeftArguments x = Checks.office(text);
        C.due("shelved(0) of " + text, row, x.shelved(0));
        C.due("shelved(1) of " + text, number, x.shelved(1));
    }

    /** "by which no LOAD is more than WIDE" */
    private static void shelvedByRoom() {
        shelved("sw10;bz5;bz5", 0, 1);
        shelved("sw9;bz5;bz5", 1, 2);
        shelved("sw30;bz30", 0, 1);
        shelved("sw60;bz30;bz30", 0, 1);
        shelved("sw59;bz30;bz30", 1, 2);
        shelved("sw1n5;bz1;bz1;bz1;bz1;bz1", 1234, 5);
        shelved("sw8;bz1;bz1;bz1;bz1;bz1;bz1;bz1;bz1", 0, 1);
        shelved("sw7;bz1;bz1;bz1;bz1;bz1;bz1;bz1;bz1", 1, 2);
    }

    /** "NONE: by none, no OFFICE, no such what.", "there is no BAG: NONE", "0" of how many */
    private static void shelvedByNone() {
        shelved("sw29;bz30", -1, -1);
        shelved("sw30n1;bz30;bz1", -1, -1);
        shelved("sw30n2;bz30;bz1", 1, 2);
        shelved("sw1n4;bz1;bz1;bz1;bz1;bz1", -1, -1);
        shelved("s", -1, 0);
        shelved("sw1n1", -1, 0);
        for (int what : new int[] {-1, 2, LEAST, MOST}) {
            C.due("shelved(" + what + ")", -1, Checks.office("b").shelved(what));
        }
        C.due("no office", -1, new LeftArguments().shelved(0));
        C.due("no office", -1, new LeftArguments().shelved(1));
    }

    /** "with a BAG on the fewest SHELVES (of several the least row)", "those on the FLOOR, too" */
    private static void shelvedOnTheFewest() {
        // As each comes, the lowest shelf would need three; two will do.
        shelved("sw10n3;bz4;bz5;bz6;bz5", 101, 2);
        shelved("sw10n3;bz3;bz3;bz4;bz6;bz4", 11, 2);
        shelved("sw10n3;bz6;bz4;bz6;bz4", 11, 2);
        LeftArguments x = Checks.office("sw10n2;bz9;bz1;bz9;bz1");
        C.due("all four", 11, x.shelved(0));
        x.move(0, 9);
        C.due("on the floor, too", 11, x.shelved(0));
        x.call(0);
        C.due("places rising", 1, x.shelved(0));
        x.call(2);
        C.due("two are left", 0, x.shelved(0));
        C.due("on one", 1, x.shelved(1));
    }

    /** "if their SIZES are 2 apart or less" */
    private static void setOffTwoApart() {
        for (int size = 1; size <= 30; size++) {
            LeftArguments x = Checks.office("bz15a1c1;bz" + size + "a9c9");
            int want = Math.abs(size - 15) <= 2 ? 1 : 0;
            C.due("15 and " + size, want, x.sets(0, 1));
            C.due(size + " and 15", want, x.sets(1, 0));
        }
        LeftArguments x = Checks.office("bz5;bz6");
        C.due("alike", -1, x.sets(0, 0));
        C.due("alike, none there", -1, x.sets(2, 2));
        for (int at : NO_PLACES) {
            C.due("sets(0, " + at + ")", -1, x.sets(0, at));
            C.due("sets(" + at + ", 1)", -1, x.sets(at, 1));
        }
    }

    /** "or one is STUBBORN (both sides together) as much as the other" */
    private static void setOffAsStubborn() {
        for (int one = 0; one <= 9; one++) {
            for (int other = 0; other <= 9; other++) {
                LeftArguments x = Checks.office("bz1a4c5;bz30a" + one + "c" + other);
                C.due("9 and " + one + " with " + other, one + other == 9 ? 1 : 0, x.sets(0, 1));
            }
        }
        C.due("0 and 0", 1, Checks.office("bz1a0c0;bz30a0c0").sets(0, 1));
        C.due("18 and 18", 1, Checks.office("bz1a9c9;bz30a9c9").sets(0, 1));
    }

    private static void apart(String text, int row, int number) {
        LeftArguments x = Checks.office(text);
        C.due("apart(0) of " + text, row, x.apart(0));
        C.due("apart(1) of " + text, number, x.apart(1));
    }

    /** "as many SHELVES as need be (0 .. 7)", "there is no BAG: 0", "(0; there is no BAG: NONE)" */
    private static void apartOnEightShelves() {
        apart("s", -1, 0);
        apart("b", 0, 1);
        apart("b;b", 1, 2);
        apart("sn1;b;b;b;b;b;b;b", 123456, 7);
        apart("sn1;b;b;b;b;b;b;b;b", 1234567, 8);
        C.due("no office", -1, new LeftArguments().apart(0));
        C.due("no office", -1, new LeftArguments().apart(1));
        for (int what : new int[] {-1, 2, LEAST, MOST}) {
            C.due("apart(" + what + ")", -1, Checks.office("b").apart(what));
        }
    }

    /** "by which no two that SET one another OFF are on one SHELF, whatever LOAD there is" */
    private static void apartWhateverLoad() {
        apart("sw1n1;bz30a0;bz27a1;bz24a2;bz21a3;bz18a4;bz15a5;bz12a6;bz9a7", 0, 1);
        apart("sw1n1;bz30a0;bz28a1;bz24a2;bz21a3;bz18a4;bz15a5;bz12a6;bz9a7", 1000000, 2);
        apart("bz1a0;bz4a1;bz3a2;bz6a3", 11, 2);
        // The second would do on the first shelf, but then three were needed.
        apart("bz1a0;bz7a1;bz3a2;bz5a3", 110, 2);
        LeftArguments x = Checks.office("sw9;bz1a0;bz7a1;bz3a2;bz5a3");
        C.due("by room", 11, x.shelved(0));
        C.due("apart behind it", 110, x.apart(0));
        C.due("by room behind that", 11, x.shelved(0));
        // Three that set one another off and one that sets off none.
        apart("bz1a0;bz2a1;bz3a2;bz30a9", 120, 3);
    }

    /** "ROAR: the most BAGS of which each two SET one another OFF (bits; of several the least)" */
    private static void roarOfSeveralTheLeast() {
        C.due("no office", -1, new LeftArguments().roar());
        C.due("no bag", 0, Checks.office("s").roar());
        C.due("one", 1, Checks.office("b").roar());
        C.due("two", 3, Checks.office("b;b").roar());
        C.due("none sets off another", 1, Checks.office("bz1a0;bz9a1;bz20a2").roar());
        C.due("two crowds alike", 0b0101, Checks.office("bz1a0;bz20a1;bz2a2;bz21a3").roar());
        C.due("two crowds alike", 0b0011, Checks.office("bz1a0;bz2a1;bz20a2;bz21a3").roar());
        C.due("the larger one", 0b11010, Checks.office("bz1a0;bz20a1;bz2a2;bz21a3;bz22a4").roar());
        C.due("all eight", 255, Checks.office("b;b;b;b;b;b;b;b").roar());
        LeftArguments x = Checks.office("b;b;b");
        x.call(0);
        x.move(1, 9);
        C.due("on the floor, too", 6, x.roar());
    }

    // ---- what was seen

    /** "SEEN (10 at most)", "there are ten" */
    private static void tenSeenAtMost() {
        LeftArguments x = still("b;b");
        for (int i = 1; i <= 10; i++) {
            C.due("seen", i, x.seen(i % 2, 1, 1, true));
            C.due("count(7)", i, x.count(7));
        }
        C.due("an eleventh", -1, x.seen(0, 1, 31, true));
        C.due("of another one", -1, x.seen(1, 1, 31, true));
        C.due("count(7)", 10, x.count(7));
        C.due("it does not count", 30, x.sizes(0, -1));
        // The tenth counts.
        LeftArguments y = still("b");
        for (int i = 1; i <= 9; i++) {
            y.seen(0, 1, 1, true);
        }
        C.due("the tenth", 10, y.seen(0, 1, 30, true));
        C.due("fits", 1, y.sizes(0, -1));
    }

    /** "had SIZE of v (0 .. 99) or more behind n (1 .. 9) DAYS, or less", "by its number among those told" */
    private static void seenWithinBounds() {
        LeftArguments x = still("b;b;b");
        C.due("the least", 1, x.seen(0, 1, 0, true));
        C.due("the most", 2, x.seen(2, 9, 99, false));
        for (int told : new int[] {-1, 3, 8, LEAST, MOST}) {
            C.due("told " + told, -1, x.seen(told, 1, 1, true));
        }
        for (int n : new int[] {0, 10, -1, LEAST, MOST}) {
            C.due("n " + n, -1, x.seen(0, n, 1, true));
        }
        for (int v : new int[] {-1, 100, LEAST, MOST}) {
            C.due("v " + v, -1, x.seen(0, 1, v, false));
        }
        C.due("count(7)", 2, x.count(7));
        // Told is told, also when none is there any more; what was left is not told.
        x.call(1);
        C.due("called for", 3, x.seen(1, 1, 0, true));
        C.due("left", 1, x.leave(9, 1, 1, 1));
        C.due("left", 3, x.leave(9, 1, 1, 2));
        C.due("no told one", -1, x.seen(3, 1, 0, true));
        C.due("an office without bags", -1, Checks.office("s").seen(0, 1, 0, true));
    }

    /** "which SIZE (1 .. 30) it may have had so that all SEEN of it is so": how many, the i-th */
    private static void sizesByMarks() {
        for (int v = 0; v <= 31; v++) {
            LeftArguments more = still("b");
            more.seen(0, 9, v, true);
            int fits = v == 0 ? 30 : 31 - v;
            C.due(v + " or more", fits, more.sizes(0, -1));
            C.due("the first", fits == 0 ? -1 : Math.max(1, v), more.sizes(0, 0));
            C.due("the last", fits == 0 ? 0 : 30, more.sizes(0, fits - 1));
            C.due("none behind it", -1, more.sizes(0, fits));
            LeftArguments less = still("b");
            less.seen(0, 1, v, false);
            C.due("less than " + v, Math.max(0, v - 1), less.sizes(0, -1));
            C.due("the first", v < 2 ? -1 : 1, less.sizes(0, 0));
        }
        LeftArguments x = still("b;b");
        for (int i : new int[] {-2, 30, LEAST, MOST}) {
            C.due("sizes(0, " + i + ")", -1, x.sizes(0, i));
        }
        for (int told : new int[] {-1, 2, LEAST, MOST}) {
            C.due("sizes(" + told + ", ..)", -1, x.sizes(told, -1));
            C.due("sizes(" + told + ", ..)", -1, x.sizes(told, 0));
        }
        // 99 at most: behind nine days of 9 all from 18 on.
        LeftArguments y = Checks.officeWithLaw("b", "y:9");
        y.seen(0, 9, 99, true);
        C.due("18 to 30", 13, y.sizes(0, -1));
        C.due("the first", 18, y.sizes(0, 0));
    }

    /** "(ENDED: 0)" */
    private static void sizesOfEnded() {
        LeftArguments x = Checks.officeWithLaw("b;b;b;b", "y:0-1");
        x.seen(0, 9, 1, false);
        C.due("ended within nine days", 9, x.sizes(0, -1));
        x.seen(1, 9, 1, true);
        C.due("not ended", 21, x.sizes(1, -1));
        x.seen(2, 9, 0, true);
        C.due("0 or more", 30, x.sizes(2, -1));
        x.seen(3, 1, 0, false);
        C.due("less than 0", 0, x.sizes(3, -1));
        C.due("none", -1, x.sizes(3, 0));
        // What ended grows no more.
        LeftArguments y = Checks.officeWithLaw("b", "y:t=0?0-9;y:9");
        y.seen(0, 2, 1, false);
        C.due("1 to 9", 9, y.sizes(0, -1));
    }

    /** "alone in the OFFICE, as told (DAY 0)", "(all else as told)" */
    private static void sizesAloneAsTold() {
        LeftArguments x = Checks.officeWithLaw("sw60;bz9a1c7;bz9a2c6l1;b;b", "y:n*9+d*3+t*3+a");
        for (int i = 0; i < 2; i++) {
            // Side 1 answers first in the first one: by 7, then by 7; side 0 in the other: by 2, then by 9 (held).
            x.seen(0, 1, 20, true);
            x.seen(0, 2, 35, false);
            x.seen(1, 1, 20, true);
            x.seen(1, 2, 30, false);
            C.due("13 to 20", 8, x.sizes(0, -1));
            C.due("the first", 13, x.sizes(0, 0));
            C.due("18", 1, x.sizes(1, -1));
            C.due("the first", 18, x.sizes(1, 0));
            x.days(13);
            x.hush(0);
            x.move(1, 9);
        }
    }

    /** "ASK of a told BAG for n (1 .. 9)", "NONE: nothing fits, no such told BAG, out of bounds" */
    private static void askWithinBounds() {
        LeftArguments x = Checks.officeWithLaw("b;b", "y:1");
        for (int n = 1; n <= 9; n++) {
            C.due("half of 30, " + n + " days later", 16 + n, x.ask(0, n));
        }
        for (int n : new int[] {0, 10, -1, LEAST, MOST}) {
            C.due("ask(0, " + n + ")", -1, x.ask(0, n));
        }
        for (int told : new int[] {-1, 2, LEAST, MOST}) {
            C.due("ask(" + told + ", 1)", -1, x.ask(told, 1));
        }
        x.seen(0, 1, 0, false);
        C.due("nothing fits", -1, x.ask(0, 1));
        C.due("the other one", 17, x.ask(1, 1));
    }

    /** "the v (0 .. 99) for which v or more and less ... are least apart in number (of several the least)" */
    private static void askOfSeveralTheLeast() {
        LeftArguments x = still("b");
        x.seen(0, 1, 10, true);
        x.seen(0, 1, 20, false);
        C.due("10 to 19", 15, x.ask(0, 1));
        x.seen(0, 1, 19, false);
        C.due("10 to 18: 14 and 15 are as good", 14, x.ask(0, 1));
        x.seen(0, 1, 12, false);
        C.due("10 and 11", 11, x.ask(0, 1));
        x.seen(0, 1, 11, false);
        C.due("one: as good everywhere", 0, x.ask(0, 1));
        // All alike: at 99, and all ended.
        LeftArguments y = Checks.officeWithLaw("b;b", "y:9");
        y.seen(0, 9, 99, true);
        C.due("all 99", 0, y.ask(0, 9));
        C.due("13 of them apart a day earlier", 96, y.ask(0, 8));
        LeftArguments z = Checks.officeWithLaw("b", "y:0-9");
        C.due("all ended", 0, z.ask(0, 4));
        C.due("27 ended, three did not", 1, z.ask(0, 3));
        // 29 and 30 become 98 and 99: the last mark is the one.
        LeftArguments w = Checks.officeWithLaw("b", "y:t<7?9;y:t=7?6");
        w.seen(0, 1, 38, true);
        C.due("98 and 99", 99, w.ask(0, 8));
    }

    // ---- sale

    /** "SALE for c (1 .. 400)" */
    private static void saleWithinBounds() {
        LeftArguments x = onDay("sw60;bz30;bz30;bz30;bz30;bz30;bz30;bz30;bz30", 7);
        C.due("c 1", 1, x.sale(1));
        C.due("c 240", 255, x.sale(240));
        C.due("c 241", -1, x.sale(241));
        C.due("c 400", -1, x.sale(400));
        for (int c : new int[] {0, 401, -1, LEAST, MOST}) {
            C.due("c " + c, -1, x.sale(c));
        }
        holds(x, "y:9");
        x.days(8);
        C.due("five of 99", 31, x.sale(400));
        C.due("four of 99", 15, x.sale(396));
        C.due("five of 99", 31, x.sale(397));
        C.due("c 401", -1, x.sale(401));
        C.due("no office", -1, new LeftArguments().sale(1));
        C.due("no bag", -1, Checks.office("s").sale(1));
    }

    /** "BAGS that were there 7 DAYS or more" */
    private static void saleOfRipeOnes() {
        LeftArguments x = onDay("sw60;bz5", 6);
        C.due("6 days", -1, x.sale(1));
        x.leave(9, 1, 1, 1);
        x.days(1);
        C.due("7 days", 1, x.sale(5));
        C.due("the other one is not ripe", -1, x.sale(6));
        x.days(5);
        C.due("6 days", -1, x.sale(6));
        x.days(1);
        C.due("7 days", 2, x.sale(6));
    }

    /** "the fewest BAGS ... whose SIZES are c or more together (bits; of several the least)" */
    private static void saleOfFewest() {
        LeftArguments x = onDay("sw60;bz4;bz6h1;bz5h1;bz9h2;bz9h2", 7);
        C.due("4: the least of all", 1, x.sale(4));
        C.due("5", 2, x.sale(5));
        C.due("6", 2, x.sale(6));
        C.due("7: of two of 9 the first", 8, x.sale(7));
        C.due("10: two", 3, x.sale(10));
        C.due("11", 6, x.sale(11));
        C.due("15", 10, x.sale(15));
        C.due("18", 24, x.sale(18));
        C.due("33: all", 31, x.sale(33));
        C.due("34", -1, x.sale(34));
    }

    // ---- game, rests, odds, shares

    /** "x, y (0 .. 3)", "HIDDEN: none there, out of bounds" */
    private static void gameWithinBounds() {
        LeftArguments x = still("bz5a9c9;bh1");
        for (int one = 0; one <= 3; one++) {
            for (int other = 0; other <= 3; other++) {
                C.due("side 0", 25 - 2 * one, x.game(0, one, other, 0));
                C.due("side 1", 28 - 2 * other, x.game(0, one, other, 1));
            }
        }
        for (int fine = 0; fine <= 3; fine++) {
            for (int wrong : new int[] {-1, 4, LEAST, MOST}) {
                C.due("x " + wrong, -1000000, x.game(0, wrong, fine, fine % 2));
                C.due("y " + wrong, -1000000, x.game(0, fine, wrong, fine % 2));
            }
            for (int what : new int[] {-1, 2, LEAST, MOST}) {
                C.due("what " + what, -1000000, x.game(0, fine, 3 - fine, what));
            }
        }
        for (int at : NO_PLACES) {
            C.due("at " + at, -1000000, x.game(at, 0, 0, 0));
        }
        LeftArguments y = Checks.officeWithLaw("sw60;bz30a9c9", "y:9");
        y.days(8);
        C.due("size 99, less than nothing", 30 - 99 - 6, y.game(0, 3, 0, 0));
        C.due("size 99, less than nothing", 30 - 99 - 6 + 3, y.game(0, 0, 3, 1));
    }

    /** "by how much less STUBBORN its sides 0, 1 are from now on (0 at least)", "less 2 for each it gave way" */
    private static void gameIsStubborn0AtLeast() {
        for (int stubborn = 0; stubborn <= 4; stubborn++) {
            for (int way = 0; way <= 3; way++) {
                LeftArguments x = Checks.officeWithLaw("bz9a" + stubborn + "c5", "y:o");
                // Side 1 answers, then 0, then 1: o is side 0, side 1, side 0.
                int left = Math.max(0, stubborn - way);
                C.due("side 0 of " + stubborn + " by " + way, 30 - 9 - 2 * left - 5 - 2 * way, x.game(0, way, 0, 0));
                LeftArguments y = Checks.officeWithLaw("bz9a5c" + stubborn, "y:a");
                C.due("side 1 of " + stubborn + " by " + way, 30 - 9 - 2 * left - 5 - 2 * way + 3,
                        y.game(0, 0, way, 1));
            }
        }
        LeftArguments x = Checks.office("ba1c1");
        x.game(0, 3, 3, 0);
        C.due("it stays as it is", 1, x.bag(0, 1));
        C.due("it stays as it is", 1, x.bag(0, 2));
    }

    /** "3 more, if it had the LAST WORD then (ENDED by then: for both)" */
    private static void gameThatEnds() {
        for (int size = 1; size <= 5; size++) {
            LeftArguments x = Checks.officeWithLaw("bz" + size, "y:0-1");
            int then = Math.max(0, size - 3);
            C.due("side 0 of " + size, 30 - then + (then == 0 ? 3 : 0), x.game(0, 0, 0, 0));
            C.due("side 1 of " + size, 30 - then + 3, x.game(0, 0, 0, 1));
            LeftArguments y = Checks.officeWithLaw("bl1z" + size, "y:0-1");
            C.due("side 0 of " + size, 30 - then + 3, y.game(0, 0, 0, 0));
            C.due("side 1 of " + size, 30 - then + (then == 0 ? 3 : 0), y.game(0, 0, 0, 1));
        }
    }

    /** "behind 3 DAYS of it alone in the OFFICE (HUSHED or not now, it is not in these)" */
    private static void gameOfItAlone() {
        LeftArguments x = Checks.officeWithLaw("sw60;bz5;bz6;bz7", "y:n+1");
        C.due("not alone", 14, x.large(0, 3));
        C.due("alone", 30 - 8, x.game(0, 0, 0, 0));
        C.due("another one alone", 30 - 10, x.game(2, 0, 0, 0));
        x.hush(0);
        C.due("hushed or not", 30 - 8, x.game(0, 0, 0, 0));
        C.due("hushed or not", 30 - 8 + 3, x.game(0, 0, 0, 1));
        x.move(0, 9);
        C.due("on the floor or not", 30 - 8, x.game(0, 0, 0, 0));
        // From as it is now: the days that it was there and the day go on.
        LeftArguments y = onDay("sw60;bz5", 50);
        y.call(0);
        y.leave(9, 1, 1, 0);
        y.days(4);
        holds(y, "y:d=6?1;y:t=54?2;y:d+t<9?7;y:0");
        C.due("days there 4 to 6, day 54 to 56", 30 - 12, y.game(0, 0, 0, 0));
    }

    /** "10 times x and y by which neither has more by another of its own: how many, the i-th (rising)" */
    private static void restsByNumbers() {
        LeftArguments x = still("bz5a9c9;bh1");
        C.due("one", 1, x.rests(0, -1));
        C.due("neither gives way", 0, x.rests(0, 0));
        C.due("no second", -1, x.rests(0, 1));
        for (int i : new int[] {-2, 16, LEAST, MOST}) {
            C.due("rests(0, " + i + ")", -1, x.rests(0, i));
        }
        for (int at : NO_PLACES) {
            C.due("rests(" + at + ", -1)", -1, x.rests(at, -1));
            C.due("rests(" + at + ", 0)", -1, x.rests(at, 0));
        }
        // Giving way by 1 saves just what it costs, 2: both ways are as good, so all four rest.
        LeftArguments y = Checks.officeWithLaw("bz20a1c1", "y:t=0?a*2;y:t=1?a*2;y:0");
        C.due("four", 4, y.rests(0, -1));
        int[] rests = {0, 1, 10, 11};
        for (int i = 0; i < 4; i++) {
            C.due("rests(0, " + i + ")", rests[i], y.rests(0, i));
        }
        C.due("no fifth", -1, y.rests(0, 4));
        // Each step by 2 less: as good up to 3.
        LeftArguments z = Checks.officeWithLaw("bz20a9c9", "y:t=0?a*2-9;y:t=1?a*2-9;y:0");
        C.due("all sixteen", 16, z.rests(0, -1));
        C.due("the last", 33, z.rests(0, 15));
        C.due("no more", -1, z.rests(0, 16));
        // Nowhere: who has the last word fears the other's way.
        LeftArguments w = Checks.officeWithLaw("bz20a3c3", "y:t>0?0;y:a+o=6|a+o=4?0;y:0-9");
        C.due("how many", w.rests(0, -1), countRests(w));
    }

    private static int countRests(LeftArguments x) {
        int found = 0;
        for (int way = 0; way < 16; way++) {
            int one = way / 4;
            int other = way % 4;
            boolean rests = true;
            for (int i = 0; i < 4; i++) {
                rests &= x.game(0, i, other, 0) <= x.game(0, one, other, 0);
                rests &= x.game(0, one, i, 1) <= x.game(0, one, other, 1);
            }
            found += rests ? 1 : 0;
        }
        return found;
    }

    /** "for n (0 .. 6) DAYS, v (0 .. 99) and a chance (0 .. 100)" */
    private static void oddsWithinBounds() {
        LeftArguments x = Checks.officeWithLaw("sw60;bz5;bz9h1", "y:1");
        C.due("n 0, v as it is", 1000000000, x.odds(0, 0, 5, 100));
        C.due("n 0, v above", 0, x.odds(0, 0, 6, 0));
        C.due("n 6, chance 0", 1000000000, x.odds(0, 6, 11, 0));
        C.due("n 6, chance 0", 0, x.odds(0, 6, 12, 0));
        C.due("n 6, chance 100", 1000000000, x.odds(0, 6, 5, 100));
        C.due("n 6, chance 100", 0, x.odds(0, 6, 6, 100));
        C.due("v 0", 1000000000, x.odds(0, 6, 0, 50));
        C.due("v 99", 0, x.odds(0, 6, 99, 50));
        for (int n : new int[] {-1, 7, LEAST, MOST}) {
            C.due("n " + n, -1, x.odds(0, n, 0, 0));
        }
        for (int v : new int[] {-1, 100, LEAST, MOST}) {
            C.due("v " + v, -1, x.odds(0, 0, v, 0));
        }
        for (int chance : new int[] {-1, 101, LEAST, MOST}) {
            C.due("chance " + chance, -1, x.odds(0, 0, 0, chance));
        }
        for (int at : NO_PLACES) {
            C.due("at " + at, -1, x.odds(at, 0, 0, 0));
        }
        LeftArguments y = Checks.officeWithLaw("sw60;bz30", "y:9");
        y.days(8);
        C.due("v 99", 1000000000, y.odds(0, 6, 99, 50));
        // Ended is 0: v 0 is reached, v 1 not.
        LeftArguments z = Checks.officeWithLaw("bz1", "y:0-1");
        C.due("v 0 of what ends", 1000000000, z.odds(0, 3, 0, 50));
        C.due("v 1 of what ends", 125000000, z.odds(0, 3, 1, 50));
    }

    /** "of 10 to the 9 parts ... (of each part chance 100ths, cut, HUSHED)" */
    private static void oddsAreCut() {
        LeftArguments x = Checks.officeWithLaw("sw60;bz5", "y:1");
        int asked = 0;
        for (int chance : new int[] {1, 3, 7, 33, 50, 67, 97, 99}) {
            for (int n : new int[] {1, 4, 5, 6}) {
                for (int v = 5; v <= 5 + n; v++) {
                    C.due("odds(0, " + n + ", " + v + ", " + chance + ")", reached(n, v - 5, 1000000000L, chance),
                            x.odds(0, n, v, chance));
                    asked++;
                }
            }
        }
        C.due("calls", true, asked < 500);
    }

    /** Of so many parts those with so many days or more that are not hushed. */
    private static long reached(int days, int need, long parts, int chance) {
        if (days == 0) {
            return need <= 0 ? parts : 0;
        }
        long hushed = parts * chance / 100;
        return reached(days - 1, need, hushed, chance) + reached(days - 1, need - 1, parts - hushed, chance);
    }

    /** "(HUSHED now, it is in the first one in any case), the others as they are" */
    private static void oddsOfHushed() {
        for (int chance : new int[] {0, 30, 100}) {
            LeftArguments x = Checks.officeWithLaw("sw60;bz5", "y:1");
            x.hush(0);
            C.due("n 0", 1000000000, x.odds(0, 0, 5, chance));
            C.due("the first day in any case", 0, x.odds(0, 1, 6, chance));
            C.due("the second by chance", reached(1, 1, 1000000000L, chance), x.odds(0, 2, 6, chance));
            C.due("six of seven days", reached(5, 5, 1000000000L, chance), x.odds(0, 6, 10, chance));
            C.due("never", 0, x.odds(0, 6, 11, chance));
        }
        // The other one ends on the first day unless it is hushed; then the one asked for grows on the second, too.
        LeftArguments y = Checks.officeWithLaw("sw60;bz5;bz1", "y:z=1?0-1;y:n");
        C.due("the other one ends", 0, y.odds(0, 2, 7, 0));
        y.hush(1);
        C.due("the other one is hushed a day", 1000000000, y.odds(0, 2, 7, 0));
        C.due("a day alone", 0, y.odds(0, 3, 8, 0));
        C.due("the other one itself", 1000000000, y.odds(1, 1, 1, 0));
        C.due("and a day later", 500000000, y.odds(1, 2, 1, 50));
    }

    /** "SHARES of c (0 .. 999) by SIZE: for a BAG c times its SIZE by that of all together, cut." */
    private static void sharesAreCut() {
        LeftArguments x = Checks.office("sw60;bz7;bz30");
        for (int c : new int[] {0, 1, 5, 6, 36, 37, 38, 998, 999}) {
            C.due("shares(0, " + c + ")", c * 7 / 37, x.shares(0, c));
            C.due("shares(1, " + c + ")", c * 30 / 37, x.shares(1, c));
        }
        for (int c : new int[] {-1, 1000, LEAST, MOST}) {
            C.due("shares(0, " + c + ")", -1, x.shares(0, c));
        }
        for (int at : NO_PLACES) {
            C.due("shares(" + at + ", 1)", -1, x.shares(at, 1));
        }
        C.due("one alone has all", 999, Checks.office("bz30").shares(0, 999));
        C.due("the smallest alone has all", 999, Checks.office("bz1").shares(0, 999));
        C.due("none has a bit of 1", 0, x.shares(1, 1));
    }

    // ---- most

    /** "(places; of several the lowest; NONE: there is none)", "NONE: no OFFICE, no such what" */
    private static void mostOfNone() {
        LeftArguments none = Checks.office("sw60n5");
        int[] want = {-1, -1, -1, -1, 0, 0, 0, 0, 0, 300, 0, 0, 0};
        for (int what = 0; what < want.length; what++) {
            C.due("most(" + what + ") without bags", want[what], none.most(what));
            C.due("most(" + what + ") without office", -1, new LeftArguments().most(what));
        }
        for (int what : new int[] {-1, 13, LEAST, MOST}) {
            C.due("most(" + what + ")", -1, none.most(what));
        }
    }

    /** "LARGEST ..., LONGEST ..., STUBBORNEST ..., LOUDEST ... of several the lowest" */
    private static void mostOfSeveralTheLowest() {
        LeftArguments alike = still("b;b;b;b;b;b;b;b");
        for (int what = 0; what < 4; what++) {
            C.due("all alike, most(" + what + ")", 0, alike.most(what));
        }
        alike.call(0);
        alike.call(1);
        for (int what = 0; what < 4; what++) {
            C.due("the lowest there, most(" + what + ")", 2, alike.most(what));
        }
        // Sizes 2 5 5, both sides 8 9 9 by other sides, growth by z.
        LeftArguments x = Checks.officeWithLaw("sw60;bz2a0c8;bz5a9c0;bz5a0c9", "y:z");
        C.due("largest", 1, x.most(0));
        C.due("stubbornest", 1, x.most(2));
        C.due("loudest", 1, x.most(3));
        holds(x, "y:0-z");
        C.due("loudest of those below 0", 0, x.most(3));
        C.due("largest, though not loudest", 1, x.most(0));
        holds(x, "y:z*2");
        C.due("loudest of those held at 9", 1, x.most(3));
        x.days(1);
        x.call(0);
        C.due("left", 0, x.leave(1, 9, 9, 0));
        C.due("longest", 1, x.most(1));
        C.due("stubbornest", 0, x.most(2));
        // There 99 days at most: then those are alike.
        LeftArguments y = onDay("sw60;bz1;bz1", 1);
        y.call(0);
        y.leave(1, 1, 1, 0);
        y.days(60);
        y.days(38);
        C.due("99 and 98", 1, y.most(1));
        y.days(1);
        C.due("99 and 99", 0, y.most(1));
    }

    /** "FULLEST: the SHELF with most LOAD (of several the lowest)." */
    private static void fullestOfSeveralTheLowest() {
        C.due("none has any", 0, Checks.office("sn5").most(4));
        C.due("one has", 4, Checks.office("sn5;bz1h4").most(4));
        C.due("two alike", 1, Checks.office("sn5;bz3h4;bz1h1;bz2h1").most(4));
        C.due("all alike", 0, Checks.office("bz3;bz3h1;bz3h2").most(4));
        LeftArguments x = Checks.office("bz30;bz1h2");
        x.move(0, 9);
        C.due("the floor is no shelf", 2, x.most(4));
    }

    /** "ROOM: how much room all SHELVES have left together (0 of one with more LOAD than it is WIDE)." */
    private static void roomOfOneWithMore() {
        C.due("all of it", 300, Checks.office("sw60n5").most(9));
        C.due("just full", 10, Checks.office("sw10n2;bz10").most(9));
        C.due("one with more", 10, Checks.office("sw10n2;bz11").most(9));
        C.due("one with much more", 9, Checks.office("sw10n2;bz30;bz30;bz1h1").most(9));
        C.due("none at all", 0, Checks.office("sw1n1;bz1").most(9));
        LeftArguments x = Checks.office("sw10n1;bz10");
        x.move(0, 9);
        C.due("the floor takes none", 10, x.most(9));
    }

    /** "RIPE: BAGS (bits) that were there 7 DAYS or more.", "DUE: PENCE of all BAGS together" */
    private static void ripeAndDue() {
        LeftArguments x = onDay("sw60f9;bz1;bz1", 6);
        C.due("6 days", 0, x.most(11));
        C.due("due", 108, x.most(10));
        C.due("left", 2, x.leave(1, 1, 1, 0));
        x.days(1);
        C.due("7 days", 3, x.most(11));
        C.due("due", 9 * 15, x.most(10));
        x.call(0);
        C.due("ripe", 2, x.most(11));
        C.due("due", 9 * 8, x.most(10));
        LeftArguments y = onDay("sw60f9;bz1;bz1;bz1;bz1;bz1;bz1;bz1;bz1", 100);
        C.due("all", 255, y.most(11));
        C.due("beyond 999", 8 * 891, y.most(10));
        C.due("no pence", 0, onDay("sw60f0;bz1", 9).most(10));
    }

    /** "QUARRELS: how many two SET one another OFF.", and the bits of 5 to 8 */
    private static void quarrelsOfEachTwo() {
        C.due("one", 0, Checks.office("b").most(12));
        C.due("two", 1, Checks.office("b;b").most(12));
        C.due("two that do not", 0, Checks.office("bz1a0;bz4a1").most(12));
        C.due("a chain", 2, Checks.office("bz1a0;bz3a1;bz5a2").most(12));
        LeftArguments x = Checks.office("b;b;b;b;b;b;b;b");
        C.due("eight", 28, x.most(12));
        C.due("bags", 255, x.most(5));
        C.due("on the floor", 0, x.most(6));
        C.due("hushed", 0, x.most(7));
        C.due("all", 24, x.most(8));
        for (int at = 0; at < 8; at++) {
            x.hush(at);
            x.move(at, 9);
        }
        C.due("on the floor", 255, x.most(6));
        C.due("hushed", 255, x.most(7));
        x.call(7);
        C.due("quarrels", 21, x.most(12));
        C.due("bags", 127, x.most(5));
        C.due("on the floor", 127, x.most(6));
        C.due("hushed", 127, x.most(7));
        C.due("all", 21, x.most(8));
    }
}
