/** Promises 22 to 37: what is answered apart. */
public final class ApartTest {
    private static final Checks C = new Checks();

    public static void main(String[] args) {
        promise22Large();
        promise23Ends();
        promise24Falls();
        promise25Shelved();
        promise26Sets();
        promise27Apart();
        promise28Roar();
        promise29Seen();
        promise30Sizes();
        promise31Ask();
        promise32Sale();
        promise33Game();
        promise34Rests();
        promise35Odds();
        promise36Shares();
        promise37Most();
        nothingChanges();
        C.finish("ApartTest");
    }

    private static void promise22Large() {
        LeftArguments x = Checks.officeWithLaw("sw60;bz5;bz2h1;bz30h2", "y:z<3?0-1;y:1");
        C.due("large(0, 0)", 5, x.large(0, 0));
        C.due("large(0, 99)", 99, x.large(0, 99));
        C.due("large(0, 94)", 99, x.large(0, 94));
        C.due("large(0, 93)", 98, x.large(0, 93));
        C.due("large(1, 1)", 1, x.large(1, 1));
        C.due("large(1, 2)", 0, x.large(1, 2));
        C.due("large(1, 99)", 0, x.large(1, 99));
        C.due("large(0, -1)", -1, x.large(0, -1));
        C.due("large(0, 100)", -1, x.large(0, 100));
        C.due("large(3, 1)", -1, x.large(3, 1));
        C.due("large(8, 1)", -1, x.large(8, 1));
        x.hush(0);
        C.due("hushed on the first day", 5, x.large(0, 1));
        C.due("not on the second", 6, x.large(0, 2));
        x.days(2);
        C.due("it has ended", -1, x.large(1, 0));
        // Days go on behind 999, and t with them: the last day is 999, t 99, then 0.
        LeftArguments y = Checks.officeWithLaw("sw60;bz1", "y:t=99?7;y:t=0?2");
        for (int i = 0; i < 16; i++) {
            y.days(60);
        }
        y.days(39);
        C.due("day", 999, y.count(5));
        C.due("size now", 84, y.large(0, 0));
        C.due("behind one day", 91, y.large(0, 1));
        C.due("behind two days", 93, y.large(0, 2));
        C.due("behind three days", 93, y.large(0, 3));
    }

    private static void promise23Ends() {
        LeftArguments x = Checks.officeWithLaw("sw60;bz5;bz2h1", "y:z<3?0-1;y:t=98?0-9;y:0-n");
        C.due("ends(0)", 99, x.ends(0));
        C.due("ends(1)", 2, x.ends(1));
        C.due("ends(2)", -1, x.ends(2));
        C.due("ends(-1)", -1, x.ends(-1));
        x.hush(1);
        C.due("hushed, a day later", 3, x.ends(1));
        LeftArguments y = Checks.officeWithLaw("sw60;bz5", "y:t=99?0-9;y:0");
        C.due("not within 99", -1, y.ends(0));
        y.days(1);
        C.due("within 99", 99, y.ends(0));
    }

    private static void promise24Falls() {
        LeftArguments x = Checks.officeWithLaw("sw9n2;bz5;bz4;bz1h1", "y:z>3?1;y:0");
        C.due("falls(0)", 1, x.falls(0));
        C.due("falls(1)", 6, x.falls(1));
        C.due("falls(2)", -1, x.falls(2));
        C.due("falls(3)", -1, x.falls(3));
        x.hush(0);
        x.hush(1);
        C.due("hushed", 2, x.falls(0));
        x.move(0, 9);
        C.due("on the floor", -1, x.falls(0));
        LeftArguments y = Checks.officeWithLaw("sw20;bz3;bz20h1", "y:z<9?0-3;y:t=98?1;y:0");
        C.due("it ends first", -1, y.falls(0));
        C.due("the last day of these", 99, y.falls(1));
        LeftArguments z = Checks.officeWithLaw("sw20;bz20h1", "y:t=99?1;y:0");
        C.due("not within 99", -1, z.falls(0));
        // Eight together: 9 (held) and seven times 6 more is 59, just as wide; by 10 the first would fall a day earlier.
        LeftArguments w = Checks.office("sw59;bz1c9;bz1c0;bz1c0;bz1c0;bz1c0;bz1c0;bz1c0;bz1c0");
        C.due("growth is held without a law", 2, w.falls(0));
    }

    private static void shelved(String text, int row, int number) {
        LeftArguments x = Checks.office(text);
        C.due("shelved(0) of " + text, row, x.shelved(0));
        C.due("shelved(1) of " + text, number, x.shelved(1));
    }

    private static void promise25Shelved() {
        C.due("no office", -1, new LeftArguments().shelved(0));
        shelved("s", -1, 0);
        shelved("b", 0, 1);
        shelved("sw10;bz4;bz7;bz6;bz3", 101, 2);
        shelved("sw10;bz4;bz4;bz7", 1, 2);
        shelved("sw10;bz6;bz6;bz4;bz4", 101, 2);
        shelved("sw10n1;bz6;bz6", -1, -1);
        shelved("sw5;bz6", -1, -1);
        shelved("sw10n3;bz6;bz6;bz6;bz6", -1, -1);
        shelved("sw9n5;bz9;bz9;bz9;bz9;bz9", 1234, 5);
        shelved("sw8n5;b;b;b;b;b;b;b;b", 112233, 4);
        shelved("sw8n3;b;b;b;b;b;b;b;b", -1, -1);
        LeftArguments x = Checks.office("sw10;bz9;bz1;bz1;bz9");
        x.move(3, 9);
        x.call(1);
        C.due("those on the floor, too, places rising", 1, x.shelved(0));
        C.due("how many", 2, x.shelved(1));
        C.due("shelved(2)", -1, x.shelved(2));
        C.due("shelved(-1)", -1, x.shelved(-1));
    }

    private static void promise26Sets() {
        LeftArguments x = Checks.office("bz5a1c1;bz7a2c2;bz8a3c3;bz20a4c2;bz10a0c9");
        C.due("2 apart", 1, x.sets(0, 1));
        C.due("2 apart", 1, x.sets(1, 0));
        C.due("3 apart", 0, x.sets(0, 2));
        C.due("1 apart", 1, x.sets(1, 2));
        C.due("as stubborn", 1, x.sets(2, 3));
        C.due("neither", 0, x.sets(3, 4));
        C.due("2 apart", 1, x.sets(2, 4));
        C.due("alike", -1, x.sets(1, 1));
        C.due("none there", -1, x.sets(0, 5));
        C.due("none there", -1, x.sets(5, 0));
        C.due("no such place", -1, x.sets(-1, 8));
    }

    private static void apart(String text, int row, int number) {
        LeftArguments x = Checks.office(text);
        C.due("apart(0) of " + text, row, x.apart(0));
        C.due("apart(1) of " + text, number, x.apart(1));
    }

    private static void promise27Apart() {
        C.due("no office", -1, new LeftArguments().apart(1));
        apart("s", -1, 0);
        apart("b", 0, 1);
        apart("sn1;b;b;b;b;b;b;b;b", 1234567, 8);
        // Sizes 1 4 7 10 set nobody off, stubbornness is all different: one shelf, whatever load there is.
        apart("sw5n1;bz1a0;bz4a1;bz7a2;bz10a3", 0, 1);
        apart("bz1a0;bz3a1;bz5a2;bz7a3", 101, 2);
        apart("bz1a0;bz30a1;bz3a2;bz28a3;bz9a0", 111, 2);
        apart("bz1a0;bz30a1;bz3a2;bz28a3;bz2a9", 112, 3);
        LeftArguments x = Checks.office("bz1a0;bz1a1;bz30a2;bz2a3");
        C.due("apart(0)", 102, x.apart(0));
        x.call(1);
        x.move(0, 9);
        C.due("apart(0)", 1, x.apart(0));
        C.due("apart(2)", -1, x.apart(2));
        C.due("apart(-1)", -1, x.apart(-1));
    }

    private static void promise28Roar() {
        C.due("no office", -1, new LeftArguments().roar());
        C.due("no bag", 0, Checks.office("s").roar());
        C.due("one bag", 1, Checks.office("b").roar());
        C.due("two that do not", 1, Checks.office("bz1a0;bz9a1").roar());
        C.due("of several the least", 0b0011, Checks.office("bz1a0;bz2a1;bz12a2;bz13a3").roar());
        C.due("the most", 0b11100, Checks.office("bz1a0;bz2a1;bz12a2;bz13a3;bz14a4").roar());
        C.due("a chain is none", 0b0111, Checks.office("bz1a0;bz2a1;bz3a2;bz5a3").roar());
        C.due("each two", 0b0011, Checks.office("bz1a0;bz3a1;bz5a2").roar());
        C.due("all", 255, Checks.office("b;b;b;b;b;b;b;b").roar());
    }

    private static void promise29Seen() {
        C.due("no office", -1, new LeftArguments().seen(0, 1, 1, true));
        LeftArguments x = Checks.office("b;bh1");
        C.due("no such told bag", -1, x.seen(2, 1, 1, true));
        C.due("no such told bag", -1, x.seen(-1, 1, 1, true));
        C.due("n 0", -1, x.seen(0, 0, 1, true));
        C.due("n 10", -1, x.seen(0, 10, 1, true));
        C.due("v -1", -1, x.seen(0, 1, -1, true));
        C.due("v 100", -1, x.seen(0, 1, 100, true));
        x.call(0);
        x.leave(5, 5, 5, 0);
        x.leave(5, 5, 5, 0);
        C.due("a left bag is not told", -1, x.seen(2, 1, 1, true));
        for (int i = 1; i <= 10; i++) {
            C.due("seen", i, x.seen(i % 2, 1 + i % 9, 0, true));
        }
        C.due("there are ten", -1, x.seen(0, 1, 0, true));
        C.due("count(7)", 10, x.count(7));
    }

    private static void promise30Sizes() {
        // Alone without a law the first bag grows by 9 / 2 - 1, then by 0 / 2 - 1: 3, then -1, in turn.
        LeftArguments x = Checks.office("sw9;bz5a0c9;bz5a0c0;b");
        C.due("all", 30, x.sizes(0, -1));
        C.due("the first", 1, x.sizes(0, 0));
        C.due("the last", 30, x.sizes(0, 29));
        C.due("none behind it", -1, x.sizes(0, 30));
        C.due("sizes(0, -2)", -1, x.sizes(0, -2));
        C.due("sizes(3, -1)", -1, x.sizes(3, -1));
        C.due("sizes(-1, -1)", -1, x.sizes(-1, -1));
        x.seen(0, 1, 10, true);
        C.due("7 and more", 24, x.sizes(0, -1));
        C.due("the first", 7, x.sizes(0, 0));
        x.seen(0, 2, 12, false);
        C.due("7 8 9", 3, x.sizes(0, -1));
        C.due("the last", 9, x.sizes(0, 2));
        C.due("another one's are free", 30, x.sizes(1, -1));
        // The second one shrinks by 1 a day: of those ended, size is 0.
        x.seen(1, 4, 1, false);
        C.due("1 to 4", 4, x.sizes(1, -1));
        x.seen(1, 4, 0, true);
        C.due("1 to 4", 4, x.sizes(1, -1));
        x.seen(1, 4, 0, false);
        C.due("none", 0, x.sizes(1, -1));
        C.due("none", -1, x.sizes(1, 0));
        // As told: neither what was done since nor the day matters; the law that holds does.
        x.days(5);
        x.call(0);
        C.due("7 8 9", 3, x.sizes(0, -1));
        x.law(Checks.tell(x, "y:d+t", 1));
        C.due("9 grow by 0, 2", 0, x.sizes(0, -1));
        Checks.tell(x, "bl1a8c0", 0);
        x.law(-1);
        x.seen(0, 1, 5, true);
        C.due("side 0 answers first", 2, x.sizes(0, 0));
        // What was seen of another office is gone, also where something new was seen.
        LeftArguments y = Checks.office("b;b");
        for (int i = 0; i < 10; i++) {
            y.seen(0, 1, 99, true);
        }
        C.due("nothing fits", 0, y.sizes(0, -1));
        Checks.tell(y, "b", 0);
        C.due("all", 30, y.sizes(0, -1));
        y.seen(0, 1, 0, true);
        C.due("all", 30, y.sizes(0, -1));
        C.due("seen", 2, y.seen(0, 1, 10, true));
        C.due("10 and more", 21, y.sizes(0, -1));
    }

    private static void promise31Ask() {
        LeftArguments x = Checks.officeWithLaw("sw9;bz5;bz9", "y:0");
        C.due("half of 30", 16, x.ask(0, 1));
        C.due("ask(0, 0)", -1, x.ask(0, 0));
        C.due("ask(0, 10)", -1, x.ask(0, 10));
        C.due("ask(2, 1)", -1, x.ask(2, 1));
        C.due("ask(-1, 1)", -1, x.ask(-1, 1));
        x.seen(0, 1, 20, true);
        C.due("20 .. 30, of 11 the least of those 1 apart", 25, x.ask(0, 9));
        x.seen(0, 1, 21, false);
        C.due("one is left: 0 and 1 are as good", 0, x.ask(0, 3));
        x.seen(0, 1, 20, false);
        C.due("nothing fits", -1, x.ask(0, 3));
        C.due("another one", 16, x.ask(1, 9));
        LeftArguments y = Checks.officeWithLaw("b", "y:9");
        C.due("99 at most", 88, y.ask(0, 8));
        C.due("behind nine days", 97, y.ask(0, 9));
        y.seen(0, 1, 26, true);
        y.seen(0, 1, 28, false);
        C.due("17 and 18 are left: 98 and 99", 99, y.ask(0, 9));
    }

    private static void promise32Sale() {
        C.due("no office", -1, new LeftArguments().sale(1));
        LeftArguments x = Checks.officeWithLaw("sw60;bz10;bz20h1;bz20h2;bz5", "y:0");
        x.days(6);
        C.due("not ripe", -1, x.sale(1));
        x.leave(30, 0, 0, 0);
        x.days(1);
        C.due("sale(0)", -1, x.sale(0));
        C.due("sale(401)", -1, x.sale(401));
        C.due("of several the least", 0b0001, x.sale(1));
        C.due("sale(10)", 0b0001, x.sale(10));
        C.due("sale(11)", 0b0010, x.sale(11));
        C.due("sale(21)", 0b0011, x.sale(21));
        C.due("sale(31)", 0b0110, x.sale(31));
        C.due("sale(41)", 0b0111, x.sale(41));
        C.due("sale(55)", 0b1111, x.sale(55));
        C.due("sale(56)", -1, x.sale(56));
        C.due("sale(400)", -1, x.sale(400));
        LeftArguments y = Checks.officeWithLaw("sw60;bz30;bz30;bz30;bz30;bz30", "y:9");
        y.days(8);
        C.due("sale(400)", 31, y.sale(400));
        C.due("sale(401)", -1, y.sale(401));
    }

    private static void promise33Game() {
        LeftArguments x = Checks.office("bz5a6c2;bz3;b");
        C.due("game(0, 0, 0, 0)", 23, x.game(0, 0, 0, 0));
        C.due("game(0, 0, 0, 1)", 26, x.game(0, 0, 0, 1));
        C.due("game(0, 1, 0, 0)", 22, x.game(0, 1, 0, 0));
        C.due("game(0, 0, 1, 1)", 26, x.game(0, 0, 1, 1));
        // Not below 0, yet each counts: 0 / 2 - 1 twice, 6 / 2 - 1 between.
        C.due("game(0, 0, 3, 1)", 30 - 5 - 6 + 3, x.game(0, 0, 3, 1));
        int[][] wrong = {{3, 0, 0, 0}, {-1, 0, 0, 0}, {8, 0, 0, 0}, {0, 4, 0, 0}, {0, -1, 0, 0}, {0, 0, 4, 0},
            {0, 0, -1, 0}, {0, 0, 0, 2}, {0, 0, 0, -1}};
        for (int[] w : wrong) {
            C.due("out of bounds", -1000000, x.game(w[0], w[1], w[2], w[3]));
        }
        x.hush(0);
        C.due("hushed or not", 23, x.game(0, 0, 0, 0));
        // Ended by then: for both.
        LeftArguments y = Checks.office("bz1a5c0");
        C.due("game(0, 0, 0, 0)", 33, y.game(0, 0, 0, 0));
        C.due("game(0, 2, 1, 0)", 29, y.game(0, 2, 1, 0));
        C.due("game(0, 2, 1, 1)", 31, y.game(0, 2, 1, 1));
        // Alone it never comes to more than 9 without a law; what it grew by with seven others was held.
        LeftArguments v = Checks.office("sw60;bz1a9c9;bz1;bz1;bz1;bz1;bz1;bz1;bz1");
        v.days(1);
        C.due("game(0, 0, 0, 0)", 30 - 10 - 3 - 3 - 3 + 3, v.game(0, 0, 0, 0));
        // The days it was there and the day go on.
        LeftArguments z = Checks.officeWithLaw("bz9", "y:d=6?1;y:t=5?2");
        z.days(4);
        C.due("game(0, 0, 0, 0)", 30 - 12, z.game(0, 0, 0, 0));
    }

    private static void promise34Rests() {
        LeftArguments x = Checks.office("bz5a6c2;bz3a1c9h0l1;bz4h1;bz2a0c0h1");
        C.due("how many", 2, x.rests(0, -1));
        C.due("the first", 0, x.rests(0, 0));
        C.due("the second", 1, x.rests(0, 1));
        C.due("no third", -1, x.rests(0, 2));
        C.due("rests(0, -2)", -1, x.rests(0, -2));
        C.due("none there", -1, x.rests(4, -1));
        // Who gives way by 1 wins 9 sizes: it pays for the answering side, and more of it does not.
        LeftArguments y = Checks.officeWithLaw("bz20a9c9", "y:a=8?0-9;y:0");
        C.due("how many", 1, y.rests(0, -1));
        C.due("both give way by 1", 11, y.rests(0, 0));
        // Nothing matters but the price.
        LeftArguments z = Checks.officeWithLaw("bz20a9c9", "y:0");
        C.due("how many", 1, z.rests(0, -1));
        C.due("neither gives way", 0, z.rests(0, 0));
        // One of them is enough, whichever it is.
        LeftArguments w = Checks.officeWithLaw("bz20a3c3", "y:a+o=6?0;y:0-1");
        C.due("how many", 2, w.rests(0, -1));
        C.due("side 1 does", 1, w.rests(0, 0));
        C.due("side 0 does", 10, w.rests(0, 1));
    }

    private static void promise35Odds() {
        LeftArguments x = Checks.officeWithLaw("sw60;bz5;bz9h1", "y:1");
        C.due("n 0, reached", 1000000000, x.odds(0, 0, 5, 50));
        C.due("n 0, not reached", 0, x.odds(0, 0, 6, 50));
        C.due("chance 0", 1000000000, x.odds(0, 6, 11, 0));
        C.due("chance 0", 0, x.odds(0, 6, 12, 0));
        C.due("chance 100", 0, x.odds(0, 6, 6, 100));
        C.due("one day", 700000000, x.odds(0, 1, 6, 30));
        C.due("both days", 490000000, x.odds(0, 2, 7, 30));
        C.due("one of them at least", 910000000, x.odds(0, 2, 6, 30));
        // A hundredth, cut, is hushed of each part; what is left over is not.
        C.due("never hushed, cut", 941480150, x.odds(0, 6, 11, 1));
        C.due("v 0", 1000000000, x.odds(0, 6, 0, 33));
        int[][] wrong = {{2, 0, 0, 0}, {-1, 0, 0, 0}, {0, -1, 0, 0}, {0, 7, 0, 0}, {0, 0, -1, 0}, {0, 0, 100, 0},
            {0, 0, 0, -1}, {0, 0, 0, 101}};
        for (int[] w : wrong) {
            C.due("out of bounds", -1, x.odds(w[0], w[1], w[2], w[3]));
        }
        x.hush(0);
        C.due("hushed now: in the first day in any case", 0, x.odds(0, 1, 6, 30));
        C.due("the second day by chance", 700000000, x.odds(0, 2, 6, 30));
        C.due("n 0 of a hushed one", 1000000000, x.odds(0, 0, 5, 30));
        // Another one that is hushed now is so on the first day.
        LeftArguments y = Checks.officeWithLaw("sw60;bz5;bz9", "y:n");
        y.hush(1);
        C.due("the others go on", 250000000, y.odds(0, 2, 7, 50));
        // Ended is size 0.
        LeftArguments z = Checks.officeWithLaw("sw60;bz1", "y:0-1");
        C.due("hushed every day", 244140, z.odds(0, 6, 1, 25));
        C.due("v 0 is always reached", 1000000000, z.odds(0, 6, 0, 25));
    }

    private static void promise36Shares() {
        LeftArguments x = Checks.office("bz1;bz2;bz4");
        C.due("shares(0, 999)", 142, x.shares(0, 999));
        C.due("shares(1, 999)", 285, x.shares(1, 999));
        C.due("shares(2, 999)", 570, x.shares(2, 999));
        C.due("shares(2, 0)", 0, x.shares(2, 0));
        C.due("shares(2, -1)", -1, x.shares(2, -1));
        C.due("shares(2, 1000)", -1, x.shares(2, 1000));
        C.due("shares(3, 1)", -1, x.shares(3, 1));
        C.due("one of size 1", 7, Checks.office("bz1").shares(0, 7));
        x.move(0, 9);
        C.due("the floor counts", 570, x.shares(2, 999));
    }

    private static void most(LeftArguments x, int... want) {
        for (int what = 0; what < want.length; what++) {
            C.due("most(" + what + ")", want[what], x.most(what));
        }
        C.due("most(13)", -1, x.most(13));
        C.due("most(-1)", -1, x.most(-1));
    }

    private static void promise37Most() {
        for (int what = 0; what < 13; what++) {
            C.due("no office", -1, new LeftArguments().most(what));
        }
        most(Checks.office("sw10n2"), -1, -1, -1, -1, 0, 0, 0, 0, 0, 20, 0, 0, 0);
        LeftArguments x = Checks.officeWithLaw("sw20n3f3;bz5a1c1;bz6a8c2h1;bz6a2c8h2;bz1a0c0h2", "y:0");
        x.days(6);
        C.due("left", 4, x.leave(2, 9, 0, 1));
        x.days(1);
        x.move(0, 9);
        x.hush(3);
        x.hush(4);
        x.law(-1);
        // Who answers behind seven days: side 0 of the first four, behind one day: side 0 of the left one.
        C.bags(x, 7, -1, 4, 1, 0, 4);
        most(x, 1, 0, 1, 1, 1, 31, 1, 24, 20, 20 + 12 + 13, 3 * (4 * 7 + 1), 15, 4);
        LeftArguments y = Checks.office("sw5n2;bz9;bz1h1");
        C.due("a shelf with too much has no room, not less", 4, y.most(9));
    }

    private static void nothingChanges() {
        LeftArguments x = Checks.office("sk9;bz5a6c2;bz3a1c9h0l1;bz4h1;bz2a0c0h1");
        x.days(7);
        x.hush(2);
        int[] before = all(x);
        x.large(0, 99);
        x.ends(1);
        x.falls(1);
        x.shelved(0);
        x.apart(0);
        x.roar();
        x.sizes(0, -1);
        x.ask(0, 3);
        x.sale(3);
        x.game(0, 1, 1, 1);
        x.rests(1, 0);
        x.odds(0, 6, 9, 20);
        x.shares(0, 9);
        x.most(3);
        x.fault(0);
        x.fault(1);
        int[] behind = all(x);
        for (int i = 0; i < before.length; i++) {
            C.due("looking changes nothing, " + i, before[i], behind[i]);
        }
    }

    private static int[] all(LeftArguments x) {
        int[] all = new int[64];
        for (int at = 0; at < 8; at++) {
            for (int what = 0; what < 8 && (x.most(5) >> at & 1) == 1; what++) {
                all[at * 8 + what] = x.bag(at, what);
            }
        }
        for (int what = 0; what < 10; what++) {
            all[54 + what] = x.count(what) + x.rule(3);
        }
        return all;
    }
}
