/** The edges of the tape, of offices, laws and faults (promises 1 to 6 and 9), one sentence of the document each. */
public final class TextBoundsTest {
    private static final Checks C = new Checks();
    private static final int OFFICE = 0;
    private static final int LAW = 1;
    private static final String RULE_LETTERS = "wnfk";
    private static final int[] RULE_LEAST = {1, 1, 0, 0};
    private static final int[] RULE_MOST = {60, 5, 9, 99};
    private static final int[] RULE_USUAL = {20, 3, 4, 20};
    private static final String BAG_LETTERS = "zachl";
    private static final int[] BAG_LEAST = {1, 0, 0, 0, 0};
    private static final int[] BAG_MOST = {30, 9, 9, 4, 1};
    private static final int[] BAG_USUAL = {3, 4, 3, 0, 0};

    public static void main(String[] args) {
        bytesOfZeroAreLeftOut();
        highestByteFirst();
        moreThan240();
        firstBytesAlone();
        fullTapeIsRead();
        noSuchSort();
        oneClauseAtLeast();
        oneOfSAtMost();
        noneToEightBags();
        letterOnceInAClause();
        boundsOfNumbers();
        thirdDigit();
        lettersWantNumbers();
        signsThatMayCome();
        usualNumbers();
        shelfThatIsNotThere();
        blanks();
        endsTooEarly();
        fourLawsAtMost();
        lawThatHolds();
        digitsOfLaws();
        signsOfLaws();
        sixWithinOneAnother();
        worthIsHeldBehindEachSign();
        cutTowardsZero();
        worthWithout();
        truths();
        officeOverOffice();
        rules();
        C.finish("TextBoundsTest");
    }

    private static void fault(int sort, int want, String text) {
        C.due("fault(" + sort + ") of '" + text + "'", want, Checks.faultOf(text, sort));
    }

    // ---- the tape

    /** "bytes of 0 are left out" */
    private static void bytesOfZeroAreLeftOut() {
        for (int at = 0; at < 20; at++) {
            int[] words = new int[5];
            words[at / 4] = 's' << (24 - 8 * (at % 4));
            LeftArguments x = new LeftArguments();
            C.due("one byte at " + at, 1, x.feed(words[0], words[1], words[2], words[3], words[4]));
            C.due("it is the s", 0, x.text(0));
        }
        LeftArguments x = new LeftArguments();
        C.due("no byte", 0, x.feed(0, 0, 0, 0, 0));
        C.due("byte 255 stays", 20, x.feed(-1, -1, -1, -1, -1));
        C.due("byte 1 stays", 25, x.feed(1, 1 << 8, 1 << 16, 1 << 24, 128));
    }

    /** "Twenty bytes more come to the TAPE (of each number the highest first" */
    private static void highestByteFirst() {
        LeftArguments x = new LeftArguments();
        // sw60 n5f9 k98; bz29 a7c6
        C.due("twenty bytes", 20, x.feed(0x73773630, 0x6e356639, 0x6b39383b, 0x627a3239, 0x61376336));
        C.due("text", 1, x.text(0));
        int[] rules = {60, 5, 9, 98};
        for (int what = 0; what < 4; what++) {
            C.due("rule", rules[what], x.rule(what));
        }
        C.due("size", 29, x.bag(0, 0));
        C.due("side 0", 7, x.bag(0, 1));
        C.due("side 1", 6, x.bag(0, 2));
    }

    private static LeftArguments withBlanks(int number) {
        LeftArguments x = new LeftArguments();
        Checks.feed(x, " ".repeat(number));
        C.due("bytes", number, x.count(3));
        return x;
    }

    /** "how many it has. NONE: more than 240." */
    private static void moreThan240() {
        LeftArguments x = withBlanks(239);
        C.due("two more than 239", -1, x.feed(0x2020, 0, 0, 0, 0));
        C.due("none of both came", 239, x.count(3));
        C.due("one more than 239", 240, x.feed(0, 0, 0, 0, 0x20));
        C.due("one more than 240", -1, x.feed(0, 0, 0, 0, 0x20));
        C.due("none more than 240", 240, x.feed(0, 0, 0, 0, 0));
        for (int bit = 0; bit < 32; bit++) {
            C.due("bit " + bit + " on 240", -1, x.feed(0, 0, 1 << bit, 0, 0));
        }
        C.due("none of them came", 240, x.count(3));
        int all = 0x20202020;
        C.due("twenty more than 220", 240, withBlanks(220).feed(all, all, all, all, all));
        LeftArguments y = withBlanks(221);
        C.due("twenty more than 221", -1, y.feed(all, all, all, all, all));
        C.due("none of them came", 221, y.count(3));
        C.due("nineteen more than 221", 240, y.feed(all, all, all, all, 0x202020));
    }

    /** "The TAPE has its first n bytes alone. False: n." */
    private static void firstBytesAlone() {
        LeftArguments x = new LeftArguments();
        C.due("none of none", true, x.end(0));
        C.due("one of none", false, x.end(1));
        Checks.feed(x, "bz12");
        C.due("end(-1)", false, x.end(-1));
        C.due("end(5)", false, x.end(5));
        C.due("end(least int)", false, x.end(Integer.MIN_VALUE));
        C.due("end(most int)", false, x.end(Integer.MAX_VALUE));
        C.due("all are there", 4, x.count(3));
        C.due("end(4)", true, x.end(4));
        C.due("all are there", 4, x.count(3));
        C.due("end(3)", true, x.end(3));
        C.due("end(4), one is gone", false, x.end(4));
        C.due("feed goes on behind", 4, x.feed('5', 0, 0, 0, 0));
        x.text(0);
        C.due("15, not 12", 15, x.bag(0, 0));
        C.due("end(0)", true, x.end(0));
        LeftArguments y = withBlanks(240);
        C.due("end(241)", false, y.end(241));
        C.due("end(240)", true, y.end(240));
        C.due("end(0)", true, y.end(0));
        C.due("none", 0, y.count(3));
    }

    /** A full tape is read to its last byte. */
    private static void fullTapeIsRead() {
        fault(OFFICE, -1, "s" + " ".repeat(239));
        fault(OFFICE, -1, " ".repeat(239) + "s");
        fault(OFFICE, 240, " ".repeat(240));
        fault(OFFICE, 239, "s" + " ".repeat(238) + "x");
        fault(OFFICE, 240, "bh4" + " ".repeat(237));
        fault(LAW, 240, " ".repeat(240));
        fault(LAW, 240, "y:" + "1+".repeat(119));
        fault(LAW, 239, "y:" + "1+".repeat(118) + "1)");
        // 58 times 1 less 1, then 1, 1 and 2 more.
        String law = "y:" + "1-1+".repeat(58) + "1+1+2 ";
        C.due("bytes", 240, law.length());
        C.due("growth", 4, Checks.officeWithLaw("b", law).bag(0, 7));
        // Thirty clauses, of which the last alone holds.
        String clauses = "y:0>1?7;".repeat(29) + "y:1=1?5 ";
        C.due("bytes", 240, clauses.length());
        C.due("growth", 5, Checks.officeWithLaw("b", clauses).bag(0, 7));
        LeftArguments x = Checks.office("b;b;b;b;b;b;b;b;s" + " ".repeat(223));
        C.due("eight bags", 8, x.count(1));
    }

    /** "-2: no such sort.", "NONE: a FAULT, no such sort" */
    private static void noSuchSort() {
        for (int sort : new int[] {-1, 2, Integer.MIN_VALUE, Integer.MAX_VALUE}) {
            LeftArguments x = new LeftArguments();
            Checks.feed(x, "b");
            C.due("fault(" + sort + ")", -2, x.fault(sort));
            C.due("text(" + sort + ")", -1, x.text(sort));
            C.due("the tape stays", 1, x.count(3));
            C.due("no office", -1, x.rule(0));
            C.due("fault(0)", -1, x.fault(0));
            C.due("fault(1)", 0, x.fault(1));
        }
    }

    // ---- offices

    /** "CLAUSES with ; between ... one CLAUSE at least" */
    private static void oneClauseAtLeast() {
        fault(OFFICE, 0, "");
        fault(OFFICE, 1, " ");
        fault(OFFICE, 0, ";");
        fault(OFFICE, 0, ";s");
        fault(OFFICE, -1, "s");
        fault(OFFICE, -1, "b");
        fault(OFFICE, 2, "s;");
        fault(OFFICE, 3, "b; ");
        fault(OFFICE, 2, "s;;b");
        fault(OFFICE, 1, "sb");
        fault(OFFICE, 1, "bs");
        fault(OFFICE, 2, "s b");
        LeftArguments x = new LeftArguments();
        C.due("text of an empty tape", -1, x.text(0));
        C.due("no office", -1, x.rule(0));
    }

    /** "s (its RULES; one at most)", "a second s ... at it" */
    private static void oneOfSAtMost() {
        fault(OFFICE, 2, "s;s");
        fault(OFFICE, 4, "s;b;s");
        fault(OFFICE, 4, "b;s;sw3");
        fault(OFFICE, 6, "b;s;b;s");
        fault(OFFICE, 5, "sw1; s");
        C.due("none of s", 1, Checks.office("b").count(0));
    }

    /** "b (a BAG; none to 8), in any order", "a ninth b ... at it" */
    private static void noneToEightBags() {
        for (int bags = 0; bags <= 8; bags++) {
            for (int rulesAt = 0; rulesAt <= bags; rulesAt++) {
                String text = "b;".repeat(rulesAt) + "sk7" + ";b".repeat(bags - rulesAt);
                LeftArguments x = new LeftArguments();
                C.due("text of " + text, bags, Checks.tell(x, text, 0));
                C.due("coins", 7, x.rule(3));
                C.due("bags", bags, x.count(1));
                C.due("places", (1 << bags) - 1, x.most(5));
            }
        }
        fault(OFFICE, -1, "b;b;b;b;b;b;b;b");
        fault(OFFICE, 16, "b;b;b;b;b;b;b;b;b");
        fault(OFFICE, 18, "b;b;b;b;s;b;b;b;b;b");
        fault(OFFICE, 18, "s;b;b;b;b;b;b;b;b;b");
        fault(OFFICE, 18, "s;b;b;b;b;b;b;b;b;b;x");
        LeftArguments x = new LeftArguments();
        C.due("nine bags", -1, Checks.tell(x, "b;b;b;b;b;b;b;b;b", 0));
        C.due("no office", -1, x.most(5));
    }

    /** "a letter, each once at most in a CLAUSE", "a letter that was there ... at it" */
    private static void letterOnceInAClause() {
        onceIn("s", RULE_LETTERS);
        onceIn("b", BAG_LETTERS);
        fault(OFFICE, -1, "bz1a1c1h0l0;bz1a1c1h0l0;sw1n1f1k1");
        C.due("of each clause its own", 2, Checks.office("bz1;bz2").bag(1, 0));
    }

    private static void onceIn(String head, String letters) {
        for (char letter : letters.toCharArray()) {
            fault(OFFICE, 3, head + letter + "1" + letter + "1");
            fault(OFFICE, 3, head + letter + "1" + letter);
            fault(OFFICE, 4, head + letter + "1 " + letter);
            for (char other : letters.toCharArray()) {
                if (other != letter) {
                    fault(OFFICE, 5, head + letter + "1" + other + "1" + letter + "1");
                }
            }
        }
    }

    /** "w how WIDE a SHELF is (1 .. 60" to "l who had the LAST WORD (0, 1"; else "wrong at its last digit" */
    private static void boundsOfNumbers() {
        for (int number = 0; number <= 99; number++) {
            for (String digits : number < 10 ? new String[] {"" + number, "0" + number} : new String[] {"" + number}) {
                for (int i = 0; i < 4; i++) {
                    boolean fine = number >= RULE_LEAST[i] && number <= RULE_MOST[i];
                    boundOf("", "s" + RULE_LETTERS.charAt(i) + digits, fine);
                }
                for (int i = 0; i < 5; i++) {
                    boolean fine = number >= BAG_LEAST[i] && number <= BAG_MOST[i];
                    boundOf("sn5;", "b" + BAG_LETTERS.charAt(i) + digits, fine);
                }
                boundedAnswers(digits, number);
            }
        }
    }

    private static void boundOf(String head, String clause, boolean fine) {
        String text = head + clause;
        fault(OFFICE, fine ? -1 : text.length() - 1, text);
        fault(OFFICE, fine ? -1 : text.length() - 1, text + " ; b");
    }

    private static void boundedAnswers(String digits, int number) {
        for (int i = 0; i < 4; i++) {
            if (number >= RULE_LEAST[i] && number <= RULE_MOST[i]) {
                C.due("rule", number, Checks.office("s" + RULE_LETTERS.charAt(i) + digits).rule(i));
            }
        }
        for (int i = 0; i < 5; i++) {
            if (number >= BAG_LEAST[i] && number <= BAG_MOST[i]) {
                C.due("bag", number, Checks.office("sn5;b" + BAG_LETTERS.charAt(i) + digits).bag(0, i));
            }
        }
    }

    /** "a third digit ... itself, whatever stands ahead of it" */
    private static void thirdDigit() {
        for (String digits : new String[] {"000", "001", "100", "010", "111", "300", "999"}) {
            for (char letter : RULE_LETTERS.toCharArray()) {
                fault(OFFICE, 4, "s" + letter + digits);
                fault(OFFICE, 5, "s" + letter + " " + digits + ";x");
            }
            for (char letter : BAG_LETTERS.toCharArray()) {
                fault(OFFICE, 4, "b" + letter + digits);
                fault(OFFICE, 4, "b" + letter + digits + "0");
            }
        }
    }

    /** "a letter ... and a number (one or two digits)" */
    private static void lettersWantNumbers() {
        for (char letter : RULE_LETTERS.toCharArray()) {
            fault(OFFICE, 2, "s" + letter);
            fault(OFFICE, 3, "s" + letter + " ");
            fault(OFFICE, 2, "s" + letter + ";b");
            fault(OFFICE, 2, "s" + letter + "-1");
            fault(OFFICE, 4, "s" + letter + "1 2");
        }
        for (char letter : BAG_LETTERS.toCharArray()) {
            fault(OFFICE, 2, "b" + letter);
            fault(OFFICE, 2, "b" + letter + letter);
            fault(OFFICE, 4, "b" + letter + "1 0");
        }
        fault(OFFICE, 1, "s1");
        fault(OFFICE, 1, "b1");
    }

    /** "the first byte at which no such TEXT can go on": each of the 255 at the edges of a clause. */
    private static void signsThatMayCome() {
        mayCome(OFFICE, "", "sb ");
        mayCome(OFFICE, "s", "wnfk; ");
        mayCome(OFFICE, "b", "zachl; ");
        mayCome(OFFICE, "s;", "b ");
        mayCome(OFFICE, "sw", "0123456789 ");
        mayCome(OFFICE, "sw1", "0123456789nfk; ");
        mayCome(OFFICE, "sw10", "nfk; ");
        mayCome(OFFICE, "sn1", "wfk; ");
        mayCome(OFFICE, "bz1", "0123456789achl; ");
        mayCome(OFFICE, "bz30", "achl; ");
        mayCome(OFFICE, "sw1n1f1k1", "0123456789; ");
        mayCome(OFFICE, "bz1a1c1h1l01", "; ");
        mayCome(OFFICE, "b;b;b;b;b;b;b;b;", "s ");
        mayCome(OFFICE, "b;b;b;b;b;b;b;b;s;", " ");
    }

    /** Behind a text that is right so far just these signs are no fault themselves. */
    private static void mayCome(int sort, String ahead, String signs) {
        for (int sign = 1; sign < 256; sign++) {
            // A second digit that leads out of bounds is wrong, too, but that is told elsewhere.
            boolean digit = sign >= '0' && sign <= '9';
            boolean second = digit && !ahead.isEmpty() && Character.isDigit(ahead.charAt(ahead.length() - 1));
            if (sort == OFFICE && digit && (second || ahead.equals("sw"))) {
                continue;
            }
            int at = Checks.faultOf(ahead + (char) sign, sort);
            boolean goesOn = at == -1 || at > ahead.length();
            C.due("sign " + sign + " behind '" + ahead + "'", signs.indexOf(sign) >= 0, goesOn);
            if (!goesOn) {
                C.due("fault of sign " + sign + " behind '" + ahead + "'", ahead.length(), at);
            }
        }
    }

    /** "20 without", "n how many SHELVES (1 .. 5; 3)" and their like. */
    private static void usualNumbers() {
        for (int told = -1; told < 4; told++) {
            LeftArguments x = Checks.office(told < 0 ? "s" : "s" + RULE_LETTERS.charAt(told) + "1");
            for (int i = 0; i < 4; i++) {
                C.due("rule(" + i + "), told " + told, i == told ? 1 : RULE_USUAL[i], x.rule(i));
            }
        }
        for (int told = -1; told < 5; told++) {
            LeftArguments x = Checks.office("bz30a9c8h2l1;b" + (told < 0 ? "" : BAG_LETTERS.charAt(told) + "1"));
            for (int i = 0; i < 5; i++) {
                C.due("bag(1, " + i + "), told " + told, i == told ? 1 : BAG_USUAL[i], x.bag(1, i));
            }
        }
        LeftArguments x = Checks.office("b");
        for (int i = 0; i < 4; i++) {
            C.due("no s, rule(" + i + ")", RULE_USUAL[i], x.rule(i));
        }
    }

    /** "(the length, if it ends too early, with a BAG on a SHELF that is not there)" */
    private static void shelfThatIsNotThere() {
        for (int shelves = 1; shelves <= 5; shelves++) {
            for (int shelf = 0; shelf <= 4; shelf++) {
                boolean fine = shelf < shelves;
                fault(OFFICE, fine ? -1 : 7, "sn" + shelves + ";bh" + shelf);
                fault(OFFICE, fine ? -1 : 7, "bh" + shelf + ";sn" + shelves);
                fault(OFFICE, fine ? -1 : 9, "sn" + shelves + ";bh" + shelf + ";b");
                fault(OFFICE, fine ? -1 : 10, "sn" + shelves + ";bh" + shelf + "   ");
            }
        }
        fault(OFFICE, -1, "bh2");
        fault(OFFICE, 3, "bh3");
        fault(OFFICE, 5, "s;bh3");
        fault(OFFICE, 17, "b;b;b;b;b;b;b;bh3");
        // Another fault behind it comes first, for a text could still go on there.
        fault(OFFICE, 6, "bh4;bz0");
        fault(OFFICE, 4, "bh4;x");
        fault(OFFICE, 4, "bh4;");
        LeftArguments x = new LeftArguments();
        C.due("it is refused", -1, Checks.tell(x, "bh3", 0));
        C.due("the tape stays", 3, x.count(3));
    }

    /** "Blanks (32) may stand between all signs of both, not within numbers." */
    private static void blanks() {
        blanksIn(OFFICE, "sw60n5f9k99;bz30a9c8h4l1;b");
        blanksIn(LAW, "y:!z=10|(a<2&o>n)?[d+1234]*9/[0]-1;y:z=1?2;y:[t]");
        for (int sign : new int[] {9, 10, 11, 12, 13, 31, 33, 160}) {
            fault(OFFICE, 1, "s" + (char) sign + "w1");
            fault(OFFICE, 0, (char) sign + "s");
            fault(LAW, 1, "y" + (char) sign + ":1");
        }
    }

    private static void blanksIn(int sort, String text) {
        fault(sort, -1, text);
        for (int gap = 0; gap <= text.length(); gap++) {
            boolean within = gap > 0 && gap < text.length() && Character.isDigit(text.charAt(gap - 1))
                    && Character.isDigit(text.charAt(gap));
            fault(sort, within ? gap + 1 : -1, text.substring(0, gap) + " " + text.substring(gap));
            fault(sort, within ? gap + 3 : -1, text.substring(0, gap) + "   " + text.substring(gap));
        }
    }

    /** "the length, if it ends too early" */
    private static void endsTooEarly() {
        prefixes(OFFICE, "sw60n5f9k99;bz30a9c8h2l1;b", "w;zachlfnk");
        prefixes(LAW, "y:!z=10|(a<2&o>n)?[d+1234]*9/[0]-1;y:[z]=1?2;y:t", "y:!=|(<&>?[+*/-;");
        // A sum that is whole may stop; a condition may not.
        int[] stops = {0, 1, 2, -1, 4, 5, 6, -1, 8, 9, 10, -1};
        String law = "y:z=1?2;y:3";
        for (int length = 0; length < stops.length; length++) {
            fault(LAW, stops[length], law.substring(0, length));
        }
    }

    /** Each beginning of a right text has no fault or its length; the length surely behind these signs. */
    private static void prefixes(int sort, String text, String open) {
        for (int length = 0; length <= text.length(); length++) {
            String ahead = text.substring(0, length);
            int at = Checks.faultOf(ahead, sort);
            C.due("fault of '" + ahead + "' is none or " + length, true, at == -1 || at == length);
            if (length > 1 && open.indexOf(ahead.charAt(length - 1)) >= 0) {
                C.due("fault of '" + ahead + "'", length, at);
            }
        }
    }

    // ---- laws

    /** "LAWS (4 at most)", "a LAW: its number", "there are four LAWS" */
    private static void fourLawsAtMost() {
        LeftArguments x = Checks.office("b");
        for (int i = 0; i < 4; i++) {
            C.due("laws", i, x.count(2));
            C.due("its number", i, Checks.tell(x, "y:" + (i + 5), 1));
            C.due("the tape is empty", 0, x.count(3));
        }
        C.due("a fifth one", -1, Checks.tell(x, "y:1", 1));
        C.due("laws", 4, x.count(2));
        C.due("its tape stays", 3, x.count(3));
        C.due("it has no fault", -1, x.fault(1));
        for (int i = 0; i < 4; i++) {
            x.law(i);
            C.due("growth by law " + i, i + 5, x.bag(0, 7));
        }
        C.due("law(4)", false, x.law(4));
        x.end(0);
        C.due("another office", 1, Checks.tell(x, "b", 0));
        C.due("still four", -1, Checks.tell(x, "y:1", 1));
        LeftArguments y = new LeftArguments();
        C.due("a law with a fault has no number", -1, Checks.tell(y, "y:1?", 1));
        C.due("its tape stays", 4, y.count(3));
        C.due("no law", 0, y.count(2));
        y.end(3);
        C.due("the first one", 0, y.text(1));
    }

    /** "The LAW that holds (NONE: none). False: no such one." */
    private static void lawThatHolds() {
        C.due("law(NONE) without an office", true, new LeftArguments().law(-1));
        C.due("law(0) without an office", false, new LeftArguments().law(0));
        LeftArguments x = Checks.office("bz8");
        C.due("law(0) of none", false, x.law(0));
        C.due("law(NONE) of none", true, x.law(-1));
        Checks.tell(x, "y:z", 1);
        C.due("told, but it does not hold", -1, x.count(4));
        C.due("law(1) of one", false, x.law(1));
        C.due("law(0) of one", true, x.law(0));
        for (int wrong : new int[] {-2, 1, 4, Integer.MIN_VALUE, Integer.MAX_VALUE}) {
            C.due("law(" + wrong + ")", false, x.law(wrong));
            C.due("it holds still", 0, x.count(4));
            C.due("growth", 8, x.bag(0, 7));
        }
        C.due("law(NONE)", true, x.law(-1));
        C.due("none holds", -1, x.count(4));
        C.due("growth", 0, x.bag(0, 7));
    }

    /** "a number (1 to 4 digits)", "(a fifth one in a LAW) itself" */
    private static void digitsOfLaws() {
        fault(LAW, -1, "y:0");
        fault(LAW, -1, "y:00");
        fault(LAW, -1, "y:000");
        fault(LAW, -1, "y:0000");
        fault(LAW, -1, "y:9999");
        fault(LAW, 6, "y:00000");
        fault(LAW, 6, "y:10000");
        fault(LAW, 6, "y:99999");
        fault(LAW, 6, "y:123456");
        fault(LAW, 11, "y:9999+12345");
        fault(LAW, 8, "y:z=12345?1");
        fault(LAW, 7, "y:1234 5");
        grows("y:0007", 7);
        grows("y:9999-9997", 2);
        grows("y:9999/1111", 9);
    }

    /** What may come where, of all signs. */
    private static void signsOfLaws() {
        mayCome(LAW, "", "y ");
        mayCome(LAW, "y", ": ");
        mayCome(LAW, "y:", "0123456789zaondt[!( ");
        mayCome(LAW, "y:z", "+-*/=<>; ");
        mayCome(LAW, "y:1", "0123456789+-*/=<>; ");
        mayCome(LAW, "y:1234", "+-*/=<>; ");
        mayCome(LAW, "y:z+", "0123456789zaondt[ ");
        mayCome(LAW, "y:z/", "0123456789zaondt[ ");
        mayCome(LAW, "y:z=", "0123456789zaondt[ ");
        mayCome(LAW, "y:z=z", "+-*/|&? ");
        mayCome(LAW, "y:z=z|", "0123456789zaondt[!( ");
        mayCome(LAW, "y:z=z&", "0123456789zaondt[!( ");
        mayCome(LAW, "y:z=z?", "0123456789zaondt[ ");
        mayCome(LAW, "y:z=z?z", "+-*/; ");
        mayCome(LAW, "y:z=z?z;", "y ");
        mayCome(LAW, "y:!", "0123456789zaondt[!( ");
        mayCome(LAW, "y:!z", "+-*/=<> ");
        mayCome(LAW, "y:(", "0123456789zaondt[!( ");
        mayCome(LAW, "y:(z", "+-*/=<> ");
        mayCome(LAW, "y:(z=z", "+-*/|&) ");
        mayCome(LAW, "y:(z=z)", "|&? ");
        mayCome(LAW, "y:[", "0123456789zaondt[ ");
        mayCome(LAW, "y:[z", "+-*/] ");
        mayCome(LAW, "y:[z]", "+-*/=<>; ");
        mayCome(LAW, "y:!!!!!!", "0123456789zaondt ");
        mayCome(LAW, "y:[[[[[[", "0123456789zaondt ");
        mayCome(LAW, "y:((((((", "0123456789zaondt ");
    }

    /** "At most six of ( [ ! within one another", "a seventh of ( [ ! at it" */
    private static void sixWithinOneAnother() {
        for (int depth = 1; depth <= 7; depth++) {
            for (int heads = 0; heads <= depth; heads++) {
                for (int bits = 0; bits < 1 << heads; bits++) {
                    nested(heads, bits, depth - heads);
                }
            }
        }
        // What is closed does not count any more.
        fault(LAW, -1, "y:((((((z=1))))))&((((((z=1))))))|!!!!!!z=1?[[[[[[1]]]]]]-[[[[[[1]]]]]]");
        fault(LAW, -1, "y:(((((!z=1)&!z=1)|!z=1)&[z]=1))?1");
        fault(LAW, 8, "y:(((((!(z=1");
        fault(LAW, 8, "y:(((((([z]=1");
        fault(LAW, 13, "y:!!!!!!z=1&z[");
        fault(LAW, -1, "y:!!!!!!z=1&!z=[1]?1");
        fault(LAW, 10, "y:!!!!!!z=[1]?1");
        fault(LAW, -1, "y:z=[[[[[[1]]]]]]?1");
        fault(LAW, 10, "y:z=[[[[[[[1]]]]]]]?1");
        fault(LAW, 14, "y:z=z?[[[[[[1+[2]]]]]]]");
        grows("y:!(!([[z]]=7))?1;y:4", 4);
        grows("y:!!(!([z]=7))?1;y:4", 1);
        grows("y:[[[[[[z]-1]-1]-1]-1]-1]", 3);
    }

    /** Heads of ! and ( by bits, then so many of [, as a whole law: no fault up to six, the seventh at it. */
    private static void nested(int heads, int bits, int brackets) {
        StringBuilder open = new StringBuilder("y:");
        StringBuilder close = new StringBuilder();
        for (int i = 0; i < heads; i++) {
            boolean bracket = (bits >> i & 1) == 1;
            open.append(bracket ? '(' : '!');
            close.insert(0, bracket ? ")" : "");
        }
        String text = open + "[".repeat(brackets) + "z" + "]".repeat(brackets) + "=1" + close + "?1";
        fault(LAW, heads + brackets <= 6 ? -1 : 8, text);
    }

    /** Growth of the one bag (size 8, side 0 stubborn 7, side 1, which answers, 2) by a law. */
    private static void grows(String law, int want) {
        C.due("growth by " + law, want, Checks.officeWithLaw("bz8a7c2", law).bag(0, 7));
    }

    /** "Behind each sign numbers are within -1,000,000 .. 1,000,000" */
    private static void worthIsHeldBehindEachSign() {
        // 9999 * 100 is 999900: what is above that is told by what is left.
        grows("y:999*1001-9999*100-96", 3);
        grows("y:1000*1000-9999*100-96", 4);
        grows("y:1000*1001-9999*100-96", 4);
        grows("y:9999*9999-9999*100-96", 4);
        grows("y:9999*100+99-9999*100-96", 3);
        grows("y:9999*100+100-9999*100-96", 4);
        grows("y:9999*100+101-9999*100-96", 4);
        grows("y:9999*100+9999-9999*100-96", 4);
        grows("y:[0-999]*1001+9999*100+96", -3);
        grows("y:[0-1000]*1000+9999*100+96", -4);
        grows("y:[0-1000]*1001+9999*100+96", -4);
        grows("y:1000*[0-1001]+9999*100+96", -4);
        grows("y:0-9999*100-99+9999*100+96", -3);
        grows("y:0-9999*100-100+9999*100+96", -4);
        grows("y:0-9999*100-101+9999*100+96", -4);
        grows("y:1000*1001*0+1", 1);
        grows("y:9999*9999*9999*9999/9999/25", 4);
        grows("y:1000*1001-1=999*1001?1;y:2", 1);
        grows("y:1000*1001=1000*1000?1;y:2", 1);
        grows("y:1000*1000>999*1001?1;y:2", 1);
        grows("y:[0-1000]*1001<[0-1000]*1000?1;y:2", 2);
    }

    /** "/ cuts towards 0, by 0 gives 0" */
    private static void cutTowardsZero() {
        grows("y:7/2", 3);
        grows("y:[0-7]/2", -3);
        grows("y:7/[0-2]", -3);
        grows("y:[0-7]/[0-2]", 3);
        grows("y:1/2", 0);
        grows("y:[0-1]/2", 0);
        grows("y:8/8", 1);
        grows("y:7/8", 0);
        grows("y:7/0", 0);
        grows("y:[0-7]/0", 0);
        grows("y:0/0", 0);
        grows("y:7/[z-8]+5", 5);
        grows("y:5-7/0*3", 5);
        grows("y:z/n", 0);
    }

    /** "WORTH: the SUM of the first CLAUSE whose CONDITION holds (or has none), 0 without." */
    private static void worthWithout() {
        grows("y:z<8?1", 0);
        grows("y:z>8?1", 0);
        grows("y:z<8?1;y:z>8?2", 0);
        grows("y:z<9?1", 1);
        grows("y:z>7?1", 1);
        grows("y:z=8?1;y:z=8?2", 1);
        grows("y:z=9?1;y:z=8?2;y:3", 2);
        grows("y:3;y:z=8?2", 3);
        grows("y:!z=8?1;y:z<8|z>8?2", 0);
        // Nothing of a longer law told earlier stands behind a shorter one.
        LeftArguments x = Checks.office("bz8");
        Checks.tell(x, "y:z<8?1;y:z<8?2;y:5", 1);
        x.law(Checks.tell(x, "y:z<8?1", 1));
        C.due("the shorter one", 0, x.bag(0, 7));
    }

    /** "TRUTHS with | between; TRUTH: UNITS with & between; UNIT: ! UNIT, ( CONDITION ), or SUM, one of = < >, SUM" */
    private static void truths() {
        String[] units = {"z=7", "z=8", "z<8", "z<9", "z>8", "z>7", "(z=8)", "(z>8)", "!z=8", "!z<8", "!z>8", "!z>7"};
        String held = "010101100110";
        for (int i = 0; i < units.length; i++) {
            boolean one = held.charAt(i) == '1';
            grows("y:" + units[i] + "?1;y:2", one ? 1 : 2);
            grows("y:!" + units[i] + "?1;y:2", one ? 2 : 1);
            grows("y:!!" + units[i] + "?1;y:2", one ? 1 : 2);
            for (int j = 0; j < units.length; j++) {
                boolean other = held.charAt(j) == '1';
                grows("y:" + units[i] + "&" + units[j] + "?1;y:2", one && other ? 1 : 2);
                grows("y:" + units[i] + "|" + units[j] + "?1;y:2", one || other ? 1 : 2);
                grows("y:!(" + units[i] + "&" + units[j] + ")?1;y:2", one && other ? 2 : 1);
                grows("y:!(" + units[i] + "|" + units[j] + ")?1;y:2", one || other ? 2 : 1);
                grows("y:z=8|" + units[i] + "&" + units[j] + "?1;y:2", 1);
                grows("y:z=7&" + units[i] + "|" + units[j] + "?1;y:2", other ? 1 : 2);
                grows("y:(z=8|" + units[i] + ")&" + units[j] + "?1;y:2", other ? 1 : 2);
            }
        }
    }

    // ---- what an office brings with it

    /** "DAY 0; all that was of another one, SEEN, too, is gone but LAWS, which holds, TRAINS, STATUS" */
    private static void officeOverOffice() {
        LeftArguments x = Checks.officeWithLaw("sw60k9;bz5;bz6;bz7", "y:1");
        Checks.tell(x, "y:2", 1);
        x.trains(0);
        x.image();
        for (int i = 0; i < 10; i++) {
            C.due("seen", i + 1, x.seen(0, 1, 0, false));
        }
        x.days(60);
        x.hush(1);
        x.days(0);
        x.call(7);
        x.hush(1);
        x.years(61, 1);
        C.due("another office", 1, Checks.tell(x, "sk0;bz4", 0));
        int[] counts = {1, 1, 2, 0, 0, 0, 0, 0, 0, 0};
        for (int what = 0; what < counts.length; what++) {
            C.due("count(" + what + ")", counts[what], x.count(what));
        }
        int[] statuses = {1, 1, 1, 0, 0};
        for (int what = 0; what < statuses.length; what++) {
            C.due("status(" + what + ")", statuses[what], x.status(what));
        }
        C.due("coins", 0, x.rule(3));
        C.due("wide", 20, x.rule(0));
        int[] bag = {4, 4, 3, 0, 0, 0, 0, 1};
        for (int what = 0; what < bag.length; what++) {
            C.due("bag(0, " + what + ")", bag[what], x.bag(0, what));
        }
        C.noBag(x, 1, 0);
        C.due("no log", -1, x.log(0, 2));
        C.due("no act", -1, x.undo());
        C.due("no image of it", -1, x.back());
        C.due("all sizes", 30, x.sizes(0, -1));
        C.due("told are those of it", -1, x.sizes(1, -1));
        C.due("seen", 1, x.seen(0, 1, 0, true));
        C.due("all sizes still", 30, x.sizes(0, -1));
        C.due("an office without bags", 0, Checks.tell(x, "s", 0));
        C.due("no bags", 0, x.most(5));
        C.due("day", 1, x.days(1));
    }

    /** "0 how WIDE, 1 SHELVES, 2 PENCE, 3 COINS now. NONE: no OFFICE, no such what." */
    private static void rules() {
        LeftArguments none = new LeftArguments();
        LeftArguments least = Checks.office("sw1n1f0k0");
        LeftArguments most = Checks.office("sw60n5f9k99");
        for (int what = 0; what < 4; what++) {
            C.due("no office", -1, none.rule(what));
            C.due("the least", RULE_LEAST[what], least.rule(what));
            C.due("the most", RULE_MOST[what], most.rule(what));
        }
        for (int what : new int[] {-1, 4, Integer.MIN_VALUE, Integer.MAX_VALUE}) {
            C.due("rule(" + what + ")", -1, most.rule(what));
            C.due("rule(" + what + ")", -1, none.rule(what));
        }
    }
}
