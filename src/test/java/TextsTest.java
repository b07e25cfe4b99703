/** Promises 1 to 6 and 9: the tape, offices, laws and their faults. */
public final class TextsTest {
    private static final Checks C = new Checks();
    private static final int OFFICE = 0;
    private static final int LAW = 1;

    public static void main(String[] args) {
        promise1NewObject();
        promise2Feed();
        promise3End();
        promise4FaultOfOffice();
        promise4FaultOfLaw();
        promise4DepthOfLaw();
        promise5TextOfOffice();
        promise5TextOfLaw();
        promise6Rule();
        promise9Law();
        worthOfLaws();
        C.finish("TextsTest");
    }

    private static void promise1NewObject() {
        LeftArguments x = new LeftArguments();
        C.due("rule(0)", -1, x.rule(0));
        C.due("image()", -1, x.image());
        C.due("most(5)", -1, x.most(5));
        C.due("load(9)", -1, x.load(9));
        C.noBag(x, 0, 0);
        int[] counts = {0, 0, 0, 0, -1, 0, 5, 0, 0, 0};
        for (int what = 0; what < counts.length; what++) {
            C.due("count(" + what + ")", counts[what], x.count(what));
        }
        LeftArguments y = new LeftArguments();
        Checks.tell(y, "b", OFFICE);
        C.due("another object's office", -1, x.rule(0));
    }

    private static void promise2Feed() {
        LeftArguments x = new LeftArguments();
        C.due("feed of zeros", 0, x.feed(0, 0, 0, 0, 0));
        // The highest byte first, zeros between left out: "b", "z", "1", "2".
        C.due("feed with gaps", 4, x.feed(0x62000000, 0x007a0031, 0, 0x00000032, 0));
        C.due("text", 1, x.text(0));
        C.due("bag(0, 0)", 12, x.bag(0, 0));
        int all = 0x20202020;
        for (int i = 1; i <= 12; i++) {
            C.due("feed", 20 * i, x.feed(all, all, all, all, all));
        }
        C.due("feed of one too many", -1, x.feed(0x20, 0, 0, 0, 0));
        C.due("feed of none on a full tape", 240, x.feed(0, 0, 0, 0, 0));
        C.due("count(3)", 240, x.count(3));
        C.due("end(230)", true, x.end(230));
        C.due("feed of 11", -1, x.feed(all, all, 0x202020, 0, 0));
        C.due("the refused feed changed nothing", 230, x.count(3));
        C.due("feed of 10", 240, x.feed(all, all, 0x2020, 0, 0));
        // A byte above 127 counts, and is wrong where it stands.
        LeftArguments y = new LeftArguments();
        C.due("feed of -1", 4, y.feed(-1, 0, 0, 0, 0));
        C.due("fault", 0, y.fault(0));
    }

    private static void promise3End() {
        LeftArguments x = new LeftArguments();
        C.due("end(1) of an empty tape", false, x.end(1));
        C.due("end(0) of an empty tape", true, x.end(0));
        Checks.feed(x, "bz5x");
        C.due("fault", 3, x.fault(0));
        C.due("end(-1)", false, x.end(-1));
        C.due("end(5)", false, x.end(5));
        C.due("count(3)", 4, x.count(3));
        C.due("end(4)", true, x.end(4));
        C.due("end(3)", true, x.end(3));
        C.due("count(3)", 3, x.count(3));
        C.due("fault", -1, x.fault(0));
    }

    private static void fault(int sort, int want, String text) {
        C.due("fault(" + sort + ") of '" + text + "'", want, Checks.faultOf(text, sort));
    }

    private static void promise4FaultOfOffice() {
        LeftArguments x = new LeftArguments();
        C.due("fault(-1)", -2, x.fault(-1));
        C.due("fault(2)", -2, x.fault(2));
        fault(OFFICE, -1, "s");
        fault(OFFICE, -1, "b;b;b;b;b;b;b;b;s");
        fault(OFFICE, -1, "s k 0 ; b");
        fault(OFFICE, -1, "sw01n05f09k00;bz09a00");
        fault(OFFICE, 3, "   ");
        fault(OFFICE, 0, "w");
        fault(OFFICE, 2, "sw");
        fault(OFFICE, 3, "sw ");
        fault(OFFICE, 2, "swn");
        fault(OFFICE, 2, "sw0");
        fault(OFFICE, 3, "sw00");
        fault(OFFICE, 3, "sw61");
        fault(OFFICE, 4, "sw611");
        fault(OFFICE, 4, "sw000");
        fault(OFFICE, 4, "sw1 2");
        fault(OFFICE, 3, "sn61");
        fault(OFFICE, 2, "sn6 f1");
        fault(OFFICE, 3, "sn1n1");
        fault(OFFICE, 3, "sn1n");
        fault(OFFICE, 3, "sf10");
        fault(OFFICE, 4, "sk100");
        fault(OFFICE, 2, "bz0");
        fault(OFFICE, 3, "bz31");
        fault(OFFICE, 3, "ba10");
        fault(OFFICE, 3, "bc10");
        fault(OFFICE, 4, "bz100");
        fault(OFFICE, -1, "sw60n5f9k99;bz30a9c9h4l1");
        fault(OFFICE, -1, "sw1n1f0k0;bz1a0c0h0l0");
        fault(OFFICE, 2, "bh5");
        fault(OFFICE, 3, "bh05");
        fault(OFFICE, 4, "bh999");
        fault(OFFICE, 2, "bl2");
        fault(OFFICE, 1, "bk1");
        fault(OFFICE, 2, "s;s");
        fault(OFFICE, 2, "s;");
        fault(OFFICE, 4, "s ; s");
        fault(OFFICE, 1, "s,b");
        fault(OFFICE, 18, "b;b;b;b;b;b;b;b;s;b");
        fault(OFFICE, 18, "b;b;b;b;b;b;b;b;s;s");
        fault(OFFICE, 18, "b;b;b;b;b;b;b;b;s;");
        // A bag on a shelf that is not there is wrong at the end, blanks and all, wherever the shelves are told.
        fault(OFFICE, 3, "bh3");
        fault(OFFICE, 5, "bh3  ");
        fault(OFFICE, -1, "bh3;sn4");
        fault(OFFICE, 7, "sn1;bh1");
        fault(OFFICE, 9, "bh3;b;sn3");
        fault(OFFICE, 8, "sn1;bh1;x");
        fault(OFFICE, -1, "sn1;bh0");
        fault(OFFICE, 1, "b\t");
    }

    private static void promise4FaultOfLaw() {
        fault(LAW, -1, "y:z");
        fault(LAW, -1, " y : z + 1 ; y : 2 ");
        fault(LAW, -1, "y:z=1?2;y:3");
        fault(LAW, -1, "y:!z=1|(a<2&o>n)?[d+t]*9999/[0]-1");
        fault(LAW, 0, "x");
        fault(LAW, 1, "y");
        fault(LAW, 1, "yz");
        fault(LAW, 2, "y:");
        fault(LAW, 2, "y:-1");
        fault(LAW, 3, "y: b");
        fault(LAW, 6, "y:12345");
        fault(LAW, -1, "y:1234");
        fault(LAW, -1, "y:0000");
        fault(LAW, 4, "y:1 2");
        fault(LAW, 3, "y:z?1");
        fault(LAW, 3, "y:z&z=1?1");
        fault(LAW, 5, "y:z=1");
        fault(LAW, 5, "y:z=1;y:1");
        fault(LAW, 5, "y:z=1=2?1");
        fault(LAW, 6, "y:z=1?");
        fault(LAW, 7, "y:z=1?2?3");
        fault(LAW, 7, "y:z=1?2=3");
        fault(LAW, 4, "y:z+");
        fault(LAW, 4, "y:z+(1)");
        fault(LAW, 4, "y:z+!1");
        fault(LAW, 4, "y:(z)=1?1");
        fault(LAW, 7, "y:(z=1)");
        fault(LAW, 7, "y:(z=1)+1?1");
        fault(LAW, 6, "y:(z=1");
        fault(LAW, 4, "y:!z?1");
        fault(LAW, 4, "y:[z=1]?1");
        fault(LAW, 4, "y:[z)");
        fault(LAW, 3, "y:z]");
        fault(LAW, 3, "y:z)");
        fault(LAW, 6, "y:z=1&?1");
        fault(LAW, 6, "y:z=1||z=1?1");
        fault(LAW, 4, "y:z;");
        fault(LAW, 4, "y:z;z");
        fault(LAW, 5, "y:z=1]?1");
    }

    private static void promise4DepthOfLaw() {
        fault(LAW, -1, "y:[[[[[[z]]]]]]");
        fault(LAW, 8, "y:[[[[[[[z]]]]]]]");
        fault(LAW, -1, "y:!!!!!!z=1?1");
        fault(LAW, 8, "y:!!!!!!!z=1?1");
        fault(LAW, -1, "y:((((((z=1))))))?1");
        fault(LAW, 8, "y:(((((((z=1)))))))?1");
        fault(LAW, -1, "y:!(!([[z]]=1))?1");
        fault(LAW, 8, "y:!(!([[[z]]]=1))?1");
        fault(LAW, 10, "y:!!!!!!z=[1]?1");
        // One behind another is not within.
        fault(LAW, -1, "y:!!!!!!z=1&!!!!!!z=1|((((((z=1))))))?[[[[[[1]]]]]]+[[[[[[1]]]]]]");
    }

    private static void promise5TextOfOffice() {
        LeftArguments x = new LeftArguments();
        C.due("text of an empty tape", -1, x.text(0));
        Checks.feed(x, "bz5;x");
        C.due("text with a fault", -1, x.text(0));
        C.due("the tape stays", 5, x.count(3));
        C.due("text(2)", -1, x.text(2));
        C.due("text(-1)", -1, x.text(-1));
        x.end(3);
        C.due("text", 1, x.text(0));
        C.due("the tape is empty", 0, x.count(3));
        C.bags(x, 0, 5);
        C.due("an office without bags", 0, Checks.tell(x, "s", 0));
        C.noBag(x, 0, 0);
        C.due("defaults", 2, Checks.tell(x, "bz9a8c7h2l1;b", 0));
        C.due("coins", 20, x.rule(3));
        int[] first = {9, 8, 7, 2, 1, 0, 0};
        int[] second = {3, 4, 3, 0, 0, 0, 0};
        for (int what = 0; what < 7; what++) {
            C.bags(x, what, first[what], second[what]);
        }
        newOfficeForgets(x);
    }

    private static void newOfficeForgets(LeftArguments x) {
        C.due("law", 0, Checks.tell(x, "y:2", 1));
        x.law(0);
        x.trains(7);
        x.days(0);
        x.days(3);
        x.seen(0, 1, 5, true);
        x.image();
        x.hush(0);
        C.due("another office", 1, Checks.tell(x, "sk7;b", 0));
        int[] counts = {1, 1, 1, 0, 0, 0, 7, 0, 0, 0};
        for (int what = 0; what < counts.length; what++) {
            C.due("count(" + what + ")", counts[what], x.count(what));
        }
        C.due("back()", -1, x.back());
        C.due("undo()", -1, x.undo());
        C.due("log(0, 2)", -1, x.log(0, 2));
        C.due("status(1)", 1, x.status(1));
        C.due("coins", 7, x.rule(3));
        C.due("hushed", 0, x.most(7));
        C.due("growth by the law", 2, x.bag(0, 7));
    }

    private static void promise5TextOfLaw() {
        LeftArguments x = new LeftArguments();
        for (int i = 0; i < 4; i++) {
            C.due("law", i, Checks.tell(x, "y:" + i, 1));
            C.due("the tape is empty", 0, x.count(3));
        }
        C.due("a fifth law", -1, Checks.tell(x, "y:1", 1));
        C.due("its tape stays", 3, x.count(3));
        C.due("fault of it", -1, x.fault(1));
        C.due("laws", 4, x.count(2));
        C.due("none holds", -1, x.count(4));
        C.due("a law is no office", -1, x.text(0));
    }

    private static void promise6Rule() {
        LeftArguments x = Checks.office("sw7n2f0k99");
        int[] want = {7, 2, 0, 99};
        for (int what = 0; what < 4; what++) {
            C.due("rule(" + what + ")", want[what], x.rule(what));
        }
        C.due("rule(4)", -1, x.rule(4));
        C.due("rule(-1)", -1, x.rule(-1));
        x.give(2);
        C.due("coins now", 101, x.rule(3));
        LeftArguments y = Checks.office("b");
        int[] usual = {20, 3, 4, 20};
        for (int what = 0; what < 4; what++) {
            C.due("usual rule(" + what + ")", usual[what], y.rule(what));
        }
    }

    private static void promise9Law() {
        LeftArguments x = Checks.office("bc9");
        C.due("law(0), there is none", false, x.law(0));
        C.due("law(NONE)", true, x.law(-1));
        Checks.tell(x, "y:5", 1);
        Checks.tell(x, "y:6", 1);
        C.due("no law holds yet", 3, x.bag(0, 7));
        C.due("law(1)", true, x.law(1));
        C.due("law(1) again", true, x.law(1));
        C.due("growth", 6, x.bag(0, 7));
        C.due("law(2)", false, x.law(2));
        C.due("law(-2)", false, x.law(-2));
        C.due("it still holds", 1, x.count(4));
        C.due("law(0)", true, x.law(0));
        C.due("growth", 5, x.bag(0, 7));
        C.due("law(NONE)", true, x.law(-1));
        C.due("growth", 3, x.bag(0, 7));
    }

    /** Growth of the one bag (size 8, side 0 stubborn 7, side 1, which answers, 2) by a law. */
    private static void grows(String law, int want) {
        C.due("growth by " + law, want, Checks.officeWithLaw("bz8a7c2", law).bag(0, 7));
    }

    private static void worthOfLaws() {
        grows("y:z", 8);
        grows("y:a", 2);
        grows("y:o", 7);
        grows("y:n", 0);
        grows("y:d", 0);
        grows("y:t", 0);
        grows("y:z*9", 9);
        grows("y:0-z*9", -9);
        grows("y:9-5-3", 1);
        grows("y:9-[5-3]", 7);
        grows("y:2+3*2", 8);
        grows("y:7/2*2", 6);
        grows("y:[0-7]/2", -3);
        grows("y:7/[0-2]", -3);
        grows("y:7/0", 0);
        grows("y:9999*9999/9999/20", 5);
        grows("y:[0-9999]*9999/9999/20", -5);
        grows("y:9999*9999+9999*9999-9999*9999", 0);
        grows("y:9999*9999-9999*100-99", 1);
        grows("y:[0-9999]*9999+9999*100+99", -1);
        grows("y:z=8?1;y:2", 1);
        grows("y:z=7?1;y:2", 2);
        grows("y:z=7?1", 0);
        grows("y:z=7?1;y:z<8?2;y:z>7?3;y:4", 3);
        grows("y:1;y:2", 1);
        grows("y:z=8|z=8&z=7?1;y:2", 1);
        grows("y:(z=8)?1;y:2", 1);
        grows("y:(z=8|z=8)&z=7?1;y:2", 2);
        grows("y:!z=8|z=8?1;y:2", 1);
        grows("y:!(z=8|z=8)?1;y:2", 2);
        grows("y:!!z=8?1;y:2", 1);
        grows("y:!z=7&z=8?1;y:2", 1);
        grows("y:z<8?1;y:2", 2);
        grows("y:8>z?1;y:2", 2);
        grows("y: z * 2 > 15 ? 1", 1);
    }
}
