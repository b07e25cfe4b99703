import java.util.Arrays;
import java.util.NoSuchElementException;

/** An office of shelves where quarrels are left and go on; the document's promises stand in ../shared/DOC.md. */
public final class LeftArguments {
    public static final int NONE = -1;
    public static final int HIDDEN = -1000000;

    private static final int NO_SORT = -2;
    private static final int PLACES = 8;
    private static final int FLOOR = 9;
    private static final int TAPE_MAX = 240;
    private static final int LAWS_MAX = 4;
    private static final int SIZE_MAX = 99;
    private static final int STAY_MAX = 99;
    private static final int COINS_MAX = 999;
    private static final int LAST_DAY = 999;
    private static final int AT_ONCE_MAX = 60;
    private static final int AHEAD_MAX = 99;
    private static final int LEFT_SIZE_MAX = 30;
    private static final int STUBBORN_MAX = 9;
    private static final int RIPE_DAYS = 7;
    private static final int NEAR_SIZES = 2;
    private static final int GIFT_MAX = 50;
    private static final int SALE_MAX = 400;
    private static final int SHARED_MAX = 999;
    private static final int TRAINS_MAX = 9;

    // What is told of a bag, numbered as the call bag numbers it.
    private static final int SIZE = 0;
    private static final int SIDE_ONE = 1;
    private static final int SIDE_OTHER = 2;
    private static final int SHELF = 3;
    private static final int LAST_WORD = 4;
    private static final int STAY = 5;
    private static final int HUSHED = 6;
    private static final int FIELDS = 7;
    private static final int GROWTH = 7;

    // Why an act is refused, numbered as the call status numbers it.
    private static final int NO_SUCH = 0;
    private static final int OUT_OF_BOUNDS = 1;
    private static final int IS_SO = 2;
    private static final int TOO_LITTLE = 3;
    private static final int TOO_LATE = 4;
    private static final int REASONS = 5;

    private final Tape tape;
    private final OfficeReader officeReader;
    private final LawReader lawReader;
    private final Laws laws;
    private final Office office;
    private final Room room;
    private final Chronicle chronicle;
    private final Acts acts;
    private final Forecast forecast;
    private final Sightings sightings;
    private final Rows rows;
    private final Room keptRoom;
    private final Chronicle keptChronicle;
    private final int[] refused;
    private boolean imageKept;
    private int trainOdds;
    private long drawn;

    public LeftArguments() {
        tape = new Tape();
        officeReader = new OfficeReader(tape);
        lawReader = new LawReader(tape);
        laws = new Laws();
        office = new Office();
        room = new Room();
        chronicle = new Chronicle();
        acts = new Acts();
        forecast = new Forecast(laws, office);
        sightings = new Sightings(laws, office);
        rows = new Rows();
        keptRoom = new Room();
        keptChronicle = new Chronicle();
        refused = new int[REASONS];
        imageKept = false;
        trainOdds = 5;
        drawn = 0;
    }

    // ---- the tape and what is told by it

    public int feed(int a, int b, int c, int d, int e) {
        int more = Tape.signsIn(a) + Tape.signsIn(b) + Tape.signsIn(c) + Tape.signsIn(d) + Tape.signsIn(e);
        if (tape.used() + more > TAPE_MAX) {
            return NONE;
        }
        tape.add(a);
        tape.add(b);
        tape.add(c);
        tape.add(d);
        tape.add(e);
        return tape.used();
    }

    public boolean end(int n) {
        if (n < 0 || n > tape.used()) {
            return false;
        }
        tape.cut(n);
        return true;
    }

    public int fault(int sort) {
        if (sort == 0) {
            return officeReader.read();
        }
        return sort == 1 ? lawReader.read() : NO_SORT;
    }

    public int text(int sort) {
        if (sort == 0 && officeReader.read() == NONE) {
            return openOffice();
        }
        if (sort == 1 && laws.number() < LAWS_MAX && lawReader.read() == NONE) {
            tape.cut(0);
            return laws.add(lawReader);
        }
        return NONE;
    }

    private int openOffice() {
        tape.cut(0);
        office.open(officeReader);
        room.fill(office);
        acts.forget();
        sightings.forget();
        imageKept = false;
        return office.toldCount();
    }

    public boolean law(int law) {
        return laws.choose(law);
    }

    // ---- what there is

    public int rule(int what) {
        if (!office.stands()) {
            return NONE;
        }
        if (what == Office.COINS) {
            return room.coins();
        }
        return what < 0 || what > Office.COINS ? NONE : office.ruleOf(what);
    }

    public int bag(int at, int what) throws NoSuchElementException {
        if (!room.has(at) || what < 0 || what > GROWTH) {
            throw new NoSuchElementException();
        }
        return what == GROWTH ? laws.growth(room, at) : room.of(at, what);
    }

    public int load(int shelf) {
        if (!office.stands() || (shelf != FLOOR && !office.hasShelf(shelf))) {
            return NONE;
        }
        return room.loadOn(shelf);
    }

    public int count(int what) {
        switch (what) {
            case 0: return office.toldCount();
            case 1: return Integer.bitCount(room.bags());
            case 2: return laws.number();
            case 3: return tape.used();
            case 4: return laws.chosen();
            case 5: return room.day();
            case 6: return trainOdds;
            case 7: return sightings.number();
            case 8: return Chronicle.lengthOn(room.day());
            case 9: return acts.number();
            default: return HIDDEN;
        }
    }

    public int status(int what) {
        return what < 0 || what >= REASONS ? NONE : refused[what];
    }

    public int log(int i, int what) {
        return chronicle.told(room.day(), i, what);
    }

    // ---- what is done by hand

    private int refuse(int reason) {
        if (reason >= 0 && reason < REASONS) {
            refused[reason]++;
        }
        return NONE;
    }

    private void passDay() {
        int day = room.day();
        room.pass(laws, office);
        chronicle.put(day, room.fell(), room.ended(), room.allSizes());
    }

    public int days(int n) {
        if (!office.stands()) {
            return refuse(NO_SUCH);
        }
        if (n < 1 || n > AT_ONCE_MAX) {
            return refuse(OUT_OF_BOUNDS);
        }
        if (room.day() + n > LAST_DAY) {
            return refuse(TOO_LATE);
        }
        for (int i = 0; i < n; i++) {
            acts.keep(room);
            passDay();
        }
        return room.day();
    }

    public int leave(int size, int one, int other, int shelf) {
        if (!office.stands()) {
            return refuse(NO_SUCH);
        }
        if (!within(size, 1, LEFT_SIZE_MAX) || !within(one, 0, STUBBORN_MAX) || !within(other, 0, STUBBORN_MAX)
                || !office.hasShelf(shelf)) {
            return refuse(OUT_OF_BOUNDS);
        }
        int place = room.freePlace();
        if (place == NONE || !room.takes(office, shelf, size)) {
            return refuse(TOO_LITTLE);
        }
        acts.keep(room);
        room.put(place, size, one, other, shelf, 0);
        return place;
    }

    public int call(int at) {
        if (!room.has(at)) {
            return refuse(NO_SUCH);
        }
        acts.keep(room);
        return room.handOut(at, office);
    }

    public int move(int at, int shelf) {
        if (!room.has(at)) {
            return refuse(NO_SUCH);
        }
        if (shelf != FLOOR && !office.hasShelf(shelf)) {
            return refuse(OUT_OF_BOUNDS);
        }
        int was = room.of(at, SHELF);
        if (was == shelf) {
            return refuse(IS_SO);
        }
        boolean toFloor = shelf == FLOOR;
        if (!toFloor && (room.coins() < 1 || !room.takes(office, shelf, room.of(at, SIZE)))) {
            return refuse(TOO_LITTLE);
        }
        acts.keep(room);
        room.set(at, SHELF, shelf);
        if (!toFloor) {
            room.gain(-1);
        }
        return was;
    }

    public int hush(int at) {
        if (!room.has(at)) {
            return refuse(NO_SUCH);
        }
        if (room.of(at, HUSHED) == 1) {
            return refuse(IS_SO);
        }
        if (room.coins() < 1) {
            return refuse(TOO_LITTLE);
        }
        acts.keep(room);
        room.set(at, HUSHED, 1);
        room.gain(-1);
        return room.coins();
    }

    public int sell(int at) {
        if (!room.has(at)) {
            return refuse(NO_SUCH);
        }
        if (room.of(at, STAY) < RIPE_DAYS) {
            return refuse(IS_SO);
        }
        acts.keep(room);
        int size = room.of(at, SIZE);
        room.gain(size);
        room.empty(at);
        return size;
    }

    public int give(int n) {
        if (!office.stands()) {
            return refuse(NO_SUCH);
        }
        if (!within(n, 1, GIFT_MAX) || room.coins() + n > COINS_MAX) {
            return refuse(OUT_OF_BOUNDS);
        }
        acts.keep(room);
        room.gain(n);
        return room.coins();
    }

    public int undo() {
        return acts.takeBack(room) ? acts.number() : NONE;
    }

    // ---- years by draws, images

    public boolean trains(int v) {
        if (!within(v, 0, TRAINS_MAX) || v == trainOdds) {
            return false;
        }
        trainOdds = v;
        return true;
    }

    public int years(int n, long seed) {
        if (!office.stands() || !within(n, 1, AT_ONCE_MAX) || room.day() + n > LAST_DAY) {
            return NONE;
        }
        drawn = seed;
        for (int i = 0; i < n; i++) {
            acts.keep(room);
            letTrainCome();
            letSomebodyCall();
            passDay();
        }
        return room.day();
    }

    private int draw(int of) {
        drawn = drawn * 6364136223846793005L + 1442695040888963407L;
        return of < 1 ? 0 : (int) ((drawn >>> 33) % of);
    }

    private void letTrainCome() {
        if (draw(10) >= trainOdds) {
            return;
        }
        int size = draw(9) + 1;
        int one = draw(10);
        int other = draw(10);
        int shelf = draw(office.ruleOf(Office.SHELVES));
        int place = room.freePlace();
        if (place != NONE && room.takes(office, shelf, size)) {
            room.put(place, size, one, other, shelf, 0);
        }
    }

    private void letSomebodyCall() {
        int at = draw(16);
        if (room.has(at)) {
            room.handOut(at, office);
        }
    }

    public int image() {
        if (!office.stands()) {
            return NONE;
        }
        keptRoom.become(room);
        keptChronicle.become(chronicle);
        imageKept = true;
        return room.day();
    }

    public int back() {
        if (!imageKept) {
            return NONE;
        }
        room.become(keptRoom);
        chronicle.become(keptChronicle);
        acts.forget();
        return room.day();
    }

    // ---- what is answered apart

    public int large(int at, int n) {
        return !room.has(at) || !within(n, 0, AHEAD_MAX) ? NONE : forecast.sizeBehind(room, at, n);
    }

    public int ends(int at) {
        return room.has(at) ? forecast.daysToEnd(room, at) : NONE;
    }

    public int falls(int at) {
        return !room.has(at) || room.of(at, SHELF) == FLOOR ? NONE : forecast.daysToFall(room, at);
    }

    public int shelved(int what) {
        if (!office.stands() || !within(what, 0, 1)) {
            return NONE;
        }
        rows.gather(room);
        int fewest = rows.fewestByRoom(office.ruleOf(Office.SHELVES), office.ruleOf(Office.WIDE));
        return what == 1 || fewest == NONE ? fewest : rows.row();
    }

    public int sets(int one, int other) {
        if (!room.has(one) || !room.has(other) || one == other) {
            return NONE;
        }
        return room.setOff(one, other) ? 1 : 0;
    }

    public int apart(int what) {
        if (!office.stands() || !within(what, 0, 1)) {
            return NONE;
        }
        rows.gather(room);
        int fewest = rows.fewestByPeace();
        return what == 1 ? fewest : rows.row();
    }

    public int roar() {
        return office.stands() ? room.loudestCrowd() : NONE;
    }

    public int seen(int told, int n, int v, boolean more) {
        if (!office.hasTold(told) || !within(n, 1, Sightings.DAYS_MAX) || !within(v, 0, SIZE_MAX)) {
            return NONE;
        }
        return sightings.add(told, n, v, more);
    }

    public int sizes(int told, int i) {
        if (!office.hasTold(told) || i < NONE) {
            return NONE;
        }
        return sightings.possible(told, i);
    }

    public int ask(int told, int n) {
        if (!office.hasTold(told) || !within(n, 1, Sightings.DAYS_MAX)) {
            return NONE;
        }
        return sightings.bestMark(told, n);
    }

    public int sale(int c) {
        return office.stands() && within(c, 1, SALE_MAX) ? room.fewestWorth(c) : NONE;
    }

    public int game(int at, int x, int y, int what) {
        if (!room.has(at) || !within(x, 0, Forecast.WAY_MAX) || !within(y, 0, Forecast.WAY_MAX)
                || !within(what, 0, 1)) {
            return HIDDEN;
        }
        forecast.play(room, at, x, y);
        return forecast.outcome(x, y, what);
    }

    public int rests(int at, int i) {
        return !room.has(at) || i < NONE ? NONE : forecast.restingPoint(room, at, i);
    }

    public int odds(int at, int n, int v, int chance) {
        if (!room.has(at) || !within(n, 0, Forecast.ODDS_DAYS) || !within(v, 0, SIZE_MAX)
                || !within(chance, 0, 100)) {
            return NONE;
        }
        return forecast.partsOf(room, at, n, v, chance);
    }

    public int shares(int at, int c) {
        if (!room.has(at) || !within(c, 0, SHARED_MAX)) {
            return NONE;
        }
        int all = room.allSizes();
        return all < 1 ? NONE : c * room.of(at, SIZE) / all;
    }

    public int most(int what) {
        if (!office.stands()) {
            return NONE;
        }
        switch (what) {
            case 0:
            case 1:
            case 2:
            case 3: return leader(what);
            case 4: return fullest();
            case 5: return room.bags();
            case 6: return room.bagsWith(SHELF, FLOOR);
            case 7: return room.bagsWith(HUSHED, 1);
            case 8: return room.allSizes();
            case 9: return roomLeft();
            case 10: return allDue();
            case 11: return room.bagsWith(STAY, RIPE_DAYS);
            case 12: return room.quarrels();
            default: return NONE;
        }
    }

    private int leader(int what) {
        int best = NONE;
        int bestWorth = 0;
        for (int at = 0; at < PLACES; at++) {
            if (room.has(at)) {
                int worth = standing(at, what);
                if (best == NONE || worth > bestWorth) {
                    best = at;
                    bestWorth = worth;
                }
            }
        }
        return best;
    }

    private int standing(int at, int what) {
        switch (what) {
            case 0: return room.of(at, SIZE);
            case 1: return room.of(at, STAY);
            case 2: return room.of(at, SIDE_ONE) + room.of(at, SIDE_OTHER);
            default: return laws.growth(room, at);
        }
    }

    private int fullest() {
        int best = 0;
        for (int shelf = 1; shelf < office.ruleOf(Office.SHELVES); shelf++) {
            if (room.loadOn(shelf) > room.loadOn(best)) {
                best = shelf;
            }
        }
        return best;
    }

    private int roomLeft() {
        int left = 0;
        for (int shelf = 0; shelf < office.ruleOf(Office.SHELVES); shelf++) {
            left += Math.max(0, office.ruleOf(Office.WIDE) - room.loadOn(shelf));
        }
        return left;
    }

    private int allDue() {
        int due = 0;
        for (int at = 0; at < PLACES; at++) {
            due += room.due(at, office);
        }
        return due;
    }

    private static boolean within(int number, int least, int most) {
        return number >= least && number <= most;
    }

    /** The bytes that were fed, and a finger that reads along them. */
    private static final class Tape {
        private final int[] bytes = new int[TAPE_MAX];
        private int used = 0;
        private int at = 0;
        private int wrongAt = NONE;
        private int number = 0;

        static int signsIn(int word) {
            int signs = 0;
            for (int shift = 24; shift >= 0; shift -= 8) {
                if ((word >>> shift & 255) != 0) {
                    signs++;
                }
            }
            return signs;
        }

        void add(int word) {
            for (int shift = 24; shift >= 0; shift -= 8) {
                int sign = word >>> shift & 255;
                if (sign != 0 && used < TAPE_MAX) {
                    bytes[used] = sign;
                    used++;
                }
            }
        }

        void cut(int length) {
            used = Math.max(0, Math.min(used, length));
        }

        int used() {
            return used;
        }

        void rewind() {
            at = 0;
            wrongAt = NONE;
        }

        private int sign() {
            return at >= 0 && at < used && at < TAPE_MAX ? bytes[at] : NONE;
        }

        /** The sign that comes behind blanks, NONE at the end; the finger stands on it. */
        int next() {
            while (at >= 0 && at < used && at < TAPE_MAX) {
                if (bytes[at] != ' ') {
                    return bytes[at];
                }
                at++;
            }
            return NONE;
        }

        void step() {
            at++;
        }

        int wrongAt() {
            return wrongAt;
        }

        /** Notes where the text is wrong; false, so that a reader can hand it on. */
        boolean wrong(int where) {
            wrongAt = where;
            return false;
        }

        boolean wrongHere() {
            wrongAt = at;
            return false;
        }

        boolean take(int sign) {
            if (next() != sign) {
                return wrongHere();
            }
            at++;
            return true;
        }

        boolean takeNumber(int digits) {
            if (!isDigit(next())) {
                return wrongHere();
            }
            number = 0;
            for (int i = 0; i < digits && isDigit(sign()); i++) {
                number = number * 10 + sign() - '0';
                at++;
            }
            return !isDigit(sign()) || wrongHere();
        }

        int number() {
            return number;
        }

        boolean numberWithin(int least, int most) {
            return within(number, least, most) || wrong(at - 1);
        }

        static boolean isDigit(int sign) {
            return sign >= '0' && sign <= '9';
        }
    }

    /** Reads the tape as an office. */
    private static final class OfficeReader {
        static final int RULES = 4;
        static final int TOLD_FIELDS = 5;
        private static final String RULE_LETTERS = "wnfk";
        private static final int[] RULE_LEAST = {1, 1, 0, 0};
        private static final int[] RULE_MOST = {60, 5, 9, 99};
        private static final int[] RULE_USUAL = {20, 3, 4, 20};
        private static final String BAG_LETTERS = "zachl";
        private static final int[] BAG_LEAST = {1, 0, 0, 0, 0};
        private static final int[] BAG_MOST = {30, 9, 9, 4, 1};
        private static final int[] BAG_USUAL = {3, 4, 3, 0, 0};

        private final Tape tape;
        private final int[] rules = new int[RULES];
        private final int[] bags = new int[PLACES * TOLD_FIELDS];
        private boolean rulesTold = false;
        private int bagCount = 0;

        OfficeReader(Tape tape) {
            this.tape = tape;
        }

        int bagCount() {
            return bagCount;
        }

        void copyTo(int[] rulesTo, int[] bagsTo) {
            System.arraycopy(rules, 0, rulesTo, 0, Math.min(RULES, rulesTo.length));
            System.arraycopy(bags, 0, bagsTo, 0, Math.min(bags.length, bagsTo.length));
        }

        /** The fault of the tape as an office, NONE: none. */
        int read() {
            tape.rewind();
            rulesTold = false;
            bagCount = 0;
            System.arraycopy(RULE_USUAL, 0, rules, 0, RULES);
            for (int i = 0; i < PLACES; i++) {
                System.arraycopy(BAG_USUAL, 0, bags, i * TOLD_FIELDS, TOLD_FIELDS);
            }
            for (int clauses = 0; clauses <= TAPE_MAX; clauses++) {
                if (!readClause()) {
                    return tape.wrongAt();
                }
                if (tape.next() == NONE) {
                    return allShelvesStand() ? NONE : tape.used();
                }
                tape.step();
            }
            return tape.used();
        }

        private boolean readClause() {
            int sign = tape.next();
            if (sign == 's' && !rulesTold) {
                rulesTold = true;
                tape.step();
                return readItems(RULE_LETTERS, RULE_LEAST, RULE_MOST, rules, 0);
            }
            if (sign == 'b' && bagCount < PLACES) {
                int from = bagCount * TOLD_FIELDS;
                bagCount++;
                tape.step();
                return readItems(BAG_LETTERS, BAG_LEAST, BAG_MOST, bags, from);
            }
            return tape.wrongHere();
        }

        private boolean readItems(String letters, int[] least, int[] most, int[] into, int from) {
            int met = 0;
            for (int i = 0; i <= letters.length() && !atClauseEnd(); i++) {
                int which = readLetter(letters, met);
                if (which < 0 || which >= least.length || which >= most.length || !tape.takeNumber(2)
                        || !tape.numberWithin(least[which], most[which])) {
                    return false;
                }
                if (from >= 0 && from + which < into.length) {
                    into[from + which] = tape.number();
                }
                met |= 1 << which;
            }
            return true;
        }

        private boolean atClauseEnd() {
            int sign = tape.next();
            return sign == NONE || sign == ';';
        }

        /** The number of the letter that comes; NONE, and wrong there: no such one, or met before. */
        private int readLetter(String letters, int met) {
            int which = letters.indexOf((char) tape.next());
            if (which < 0 || (met >> which & 1) == 1) {
                tape.wrongHere();
                return NONE;
            }
            tape.step();
            return which;
        }

        // Shelves may be told behind the bags, so this waits for the end.
        private boolean allShelvesStand() {
            for (int i = 0; i < bagCount; i++) {
                int cell = i * TOLD_FIELDS + SHELF;
                if (cell < bags.length && bags[cell] >= rules[Office.SHELVES]) {
                    return false;
                }
            }
            return true;
        }
    }

    /** Reads the tape as a law, and writes down what Laws.worth works off: steps that use a pile of numbers. */
    private static final class LawReader {
        static final int CODE_MAX = 256;
        static final String LETTERS = "zaondt";
        private static final int DEPTH_MAX = 6;
        private static final int DIGITS_MAX = 4;

        private final Tape tape;
        private final int[] code = new int[CODE_MAX];
        private int used = 0;

        LawReader(Tape tape) {
            this.tape = tape;
        }

        int copyTo(int[] codeTo) {
            int length = Math.min(used, codeTo.length);
            System.arraycopy(code, 0, codeTo, 0, length);
            return length;
        }

        /** The fault of the tape as a law, NONE: none. */
        int read() {
            tape.rewind();
            used = 0;
            for (int clauses = 0; clauses <= TAPE_MAX; clauses++) {
                if (!readClause()) {
                    return tape.wrongAt();
                }
                if (tape.next() == NONE) {
                    return NONE;
                }
                if (!tape.take(';')) {
                    return tape.wrongAt();
                }
            }
            return tape.used();
        }

        private void write(int step, int with) {
            if (used < CODE_MAX) {
                code[used] = with * Laws.STEPS + step;
                used++;
            }
        }

        private boolean readClause() {
            if (!tape.take('y') || !tape.take(':')) {
                return false;
            }
            int sign = tape.next();
            boolean summed = sign != '!' && sign != '(';
            // A sum may be the whole clause or what a condition begins with: the sign behind it tells.
            if (summed) {
                if (!readSum(0)) {
                    return false;
                }
                if (comparing(tape.next()) == NONE) {
                    write(Laws.ANSWER, 0);
                    return true;
                }
            }
            if (!readCondition(0, summed) || !tape.take('?')) {
                return false;
            }
            int skip = used;
            write(Laws.SKIP, 0);
            if (!readSum(0)) {
                return false;
            }
            write(Laws.ANSWER, 0);
            if (skip < CODE_MAX) {
                code[skip] = used * Laws.STEPS + Laws.SKIP;
            }
            return true;
        }

        private boolean readCondition(int depth, boolean summed) {
            if (!readTruth(depth, summed)) {
                return false;
            }
            for (int i = 0; i < TAPE_MAX && tape.next() == '|'; i++) {
                tape.step();
                if (!readTruth(depth, false)) {
                    return false;
                }
                write(Laws.OR, 0);
            }
            return true;
        }

        private boolean readTruth(int depth, boolean summed) {
            if (!readUnit(depth, summed)) {
                return false;
            }
            for (int i = 0; i < TAPE_MAX && tape.next() == '&'; i++) {
                tape.step();
                if (!readUnit(depth, false)) {
                    return false;
                }
                write(Laws.AND, 0);
            }
            return true;
        }

        /** summed: its first sum was read already. */
        private boolean readUnit(int depth, boolean summed) {
            int sign = tape.next();
            if (!summed && (sign == '!' || sign == '(')) {
                if (depth >= DEPTH_MAX) {
                    return tape.wrongHere();
                }
                tape.step();
                if (sign == '(') {
                    return readCondition(depth + 1, false) && tape.take(')');
                }
                if (!readUnit(depth + 1, false)) {
                    return false;
                }
                write(Laws.NOT, 0);
                return true;
            }
            if (!summed && !readSum(depth)) {
                return false;
            }
            int step = comparing(tape.next());
            if (step == NONE) {
                return tape.wrongHere();
            }
            tape.step();
            if (!readSum(depth)) {
                return false;
            }
            write(step, 0);
            return true;
        }

        private static int comparing(int sign) {
            switch (sign) {
                case '=': return Laws.EQUAL;
                case '<': return Laws.LESS;
                case '>': return Laws.MORE;
                default: return NONE;
            }
        }

        private boolean readSum(int depth) {
            if (!readTerm(depth)) {
                return false;
            }
            for (int i = 0; i < TAPE_MAX; i++) {
                int sign = tape.next();
                if (sign != '+' && sign != '-') {
                    return true;
                }
                tape.step();
                if (!readTerm(depth)) {
                    return false;
                }
                write(sign == '+' ? Laws.PLUS : Laws.MINUS, 0);
            }
            return true;
        }

        private boolean readTerm(int depth) {
            if (!readAtom(depth)) {
                return false;
            }
            for (int i = 0; i < TAPE_MAX; i++) {
                int sign = tape.next();
                if (sign != '*' && sign != '/') {
                    return true;
                }
                tape.step();
                if (!readAtom(depth)) {
                    return false;
                }
                write(sign == '*' ? Laws.TIMES : Laws.BY, 0);
            }
            return true;
        }

        private boolean readAtom(int depth) {
            int sign = tape.next();
            if (sign == '[' && depth < DEPTH_MAX) {
                tape.step();
                return readSum(depth + 1) && tape.take(']');
            }
            if (Tape.isDigit(sign)) {
                if (!tape.takeNumber(DIGITS_MAX)) {
                    return false;
                }
                write(Laws.NUMBER, tape.number());
                return true;
            }
            int letter = sign == NONE ? NONE : LETTERS.indexOf((char) sign);
            if (letter < 0) {
                return tape.wrongHere();
            }
            tape.step();
            write(Laws.LETTER, letter);
            return true;
        }
    }

    /** The laws that were told, which of them holds, and how bags grow by it. */
    private static final class Laws {
        static final int NUMBER = 0;
        static final int LETTER = 1;
        static final int PLUS = 2;
        static final int MINUS = 3;
        static final int TIMES = 4;
        static final int BY = 5;
        static final int EQUAL = 6;
        static final int LESS = 7;
        static final int MORE = 8;
        static final int NOT = 9;
        static final int AND = 10;
        static final int OR = 11;
        static final int SKIP = 12;
        static final int ANSWER = 13;
        static final int STEPS = 16;
        private static final int BOUND = 1000000;
        private static final int GROWTH_MAX = 9;
        private static final int PILE_MAX = 64;

        private final int[][] codes = new int[LAWS_MAX][LawReader.CODE_MAX];
        private final int[] lengths = new int[LAWS_MAX];
        private final int[] letters = new int[6];
        private final int[] pile = new int[PILE_MAX];
        private int number = 0;
        private int chosen = NONE;

        int number() {
            return number;
        }

        int chosen() {
            return chosen;
        }

        int add(LawReader reader) {
            if (number >= LAWS_MAX) {
                return NONE;
            }
            lengths[number] = reader.copyTo(codes[number]);
            number++;
            return number - 1;
        }

        boolean choose(int law) {
            if (law < NONE || law >= number) {
                return false;
            }
            chosen = law;
            return true;
        }

        int growth(Room room, int at) {
            int last = room.of(at, LAST_WORD);
            int answering = room.of(at, last == 0 ? SIDE_OTHER : SIDE_ONE);
            int others = room.othersWith(at);
            if (chosen < 0 || chosen >= LAWS_MAX) {
                return held(answering / 2 + others - 1, GROWTH_MAX);
            }
            letters[0] = room.of(at, SIZE);
            letters[1] = answering;
            letters[2] = room.of(at, last == 0 ? SIDE_ONE : SIDE_OTHER);
            letters[3] = others;
            letters[4] = room.of(at, STAY);
            letters[5] = room.day() % 100;
            return held(worth(codes[chosen], lengths[chosen]), GROWTH_MAX);
        }

        private static int held(long number, int bound) {
            if (number > bound) {
                return bound;
            }
            return number < -bound ? -bound : (int) number;
        }

        private int worth(int[] code, int length) {
            int high = 0;
            for (int i = 0; i < length && i < code.length; i++) {
                int step = code[i] % STEPS;
                int with = code[i] / STEPS;
                if (step == NUMBER || step == LETTER) {
                    if (high >= PILE_MAX) {
                        return 0;
                    }
                    pile[high] = step == NUMBER ? with : letterOf(with);
                    high++;
                } else if (high < 1) {
                    return 0;
                } else if (step == ANSWER) {
                    return pile[high - 1];
                } else if (step == NOT) {
                    pile[high - 1] = 1 - pile[high - 1];
                } else if (step == SKIP) {
                    high--;
                    if (pile[high] == 0) {
                        i = Math.max(i, with - 1);
                    }
                } else if (high > 1) {
                    high--;
                    pile[high - 1] = held(joined(step, pile[high - 1], pile[high]), BOUND);
                }
            }
            return 0;
        }

        private int letterOf(int which) {
            return which >= 0 && which < letters.length ? letters[which] : 0;
        }

        private static long joined(int step, long left, long right) {
            switch (step) {
                case PLUS: return left + right;
                case MINUS: return left - right;
                case TIMES: return left * right;
                case BY: return right == 0 ? 0 : left / right;
                case EQUAL: return left == right ? 1 : 0;
                case LESS: return left < right ? 1 : 0;
                case MORE: return left > right ? 1 : 0;
                case AND: return left & right;
                default: return left | right;
            }
        }
    }

    /** The office as it was told. */
    private static final class Office {
        static final int WIDE = 0;
        static final int SHELVES = 1;
        static final int PENCE = 2;
        static final int COINS = 3;

        private final int[] rules = new int[OfficeReader.RULES];
        private final int[] bags = new int[PLACES * OfficeReader.TOLD_FIELDS];
        private int toldCount = 0;
        private boolean stands = false;

        void open(OfficeReader reader) {
            reader.copyTo(rules, bags);
            toldCount = reader.bagCount();
            stands = true;
        }

        boolean stands() {
            return stands;
        }

        int ruleOf(int what) {
            return what >= 0 && what < OfficeReader.RULES ? rules[what] : 0;
        }

        boolean hasShelf(int shelf) {
            return shelf >= 0 && shelf < rules[SHELVES];
        }

        int toldCount() {
            return toldCount;
        }

        boolean hasTold(int told) {
            return told >= 0 && told < toldCount;
        }

        int toldOf(int told, int what) {
            int cell = told * OfficeReader.TOLD_FIELDS + what;
            return cell >= 0 && cell < bags.length ? bags[cell] : 0;
        }
    }

    /** Bags in their places, coins and the day: all that an act changes but the log. */
    private static final class Room {
        static final int CELLS = PLACES * FIELDS + 2;
        private static final int COINS_CELL = PLACES * FIELDS;
        private static final int DAY_CELL = PLACES * FIELDS + 1;

        private final int[] cells = new int[CELLS];
        // For use within one call alone: growths of a day, circles of a crowd.
        private final int[] perBag = new int[PLACES];
        private int fell = 0;
        private int ended = 0;

        void fill(Office office) {
            clear();
            cells[COINS_CELL] = office.ruleOf(Office.COINS);
            for (int told = 0; told < office.toldCount(); told++) {
                put(told, office.toldOf(told, SIZE), office.toldOf(told, SIDE_ONE), office.toldOf(told, SIDE_OTHER),
                        office.toldOf(told, SHELF), office.toldOf(told, LAST_WORD));
            }
        }

        void clear() {
            Arrays.fill(cells, 0);
        }

        void become(Room other) {
            System.arraycopy(other.cells, 0, cells, 0, CELLS);
        }

        void copyTo(int[] to, int from) {
            if (from >= 0 && from <= to.length - CELLS) {
                System.arraycopy(cells, 0, to, from, CELLS);
            }
        }

        void copyFrom(int[] kept, int from) {
            if (from >= 0 && from <= kept.length - CELLS) {
                System.arraycopy(kept, from, cells, 0, CELLS);
            }
        }

        // A size of 0 says that the place has none.
        boolean has(int at) {
            return at >= 0 && at < PLACES && cells[at] > 0;
        }

        int of(int at, int what) {
            return at >= 0 && at < PLACES && what >= 0 && what < FIELDS ? cells[what * PLACES + at] : 0;
        }

        void set(int at, int what, int value) {
            if (at >= 0 && at < PLACES && what >= 0 && what < FIELDS) {
                cells[what * PLACES + at] = value;
            }
        }

        void put(int at, int size, int one, int other, int shelf, int last) {
            set(at, SIZE, size);
            set(at, SIDE_ONE, one);
            set(at, SIDE_OTHER, other);
            set(at, SHELF, shelf);
            set(at, LAST_WORD, last);
            set(at, STAY, 0);
            set(at, HUSHED, 0);
        }

        void empty(int at) {
            set(at, SIZE, 0);
        }

        int coins() {
            return cells[COINS_CELL];
        }

        void gain(int coins) {
            cells[COINS_CELL] = Math.min(COINS_MAX, cells[COINS_CELL] + coins);
        }

        int day() {
            return cells[DAY_CELL];
        }

        void setDay(int day) {
            cells[DAY_CELL] = day;
        }

        int fell() {
            return fell;
        }

        int ended() {
            return ended;
        }

        int loadOn(int shelf) {
            int sizes = 0;
            for (int at = 0; at < PLACES; at++) {
                if (cells[SHELF * PLACES + at] == shelf) {
                    sizes += cells[at];
                }
            }
            return sizes;
        }

        boolean takes(Office office, int shelf, int size) {
            return loadOn(shelf) + size <= office.ruleOf(Office.WIDE);
        }

        int freePlace() {
            for (int at = 0; at < PLACES; at++) {
                if (!has(at)) {
                    return at;
                }
            }
            return NONE;
        }

        int othersWith(int at) {
            int shelf = of(at, SHELF);
            int others = 0;
            for (int other = 0; other < PLACES; other++) {
                if (cells[other] > 0 && cells[SHELF * PLACES + other] == shelf && other != at) {
                    others++;
                }
            }
            return others;
        }

        int allSizes() {
            int sizes = 0;
            for (int at = 0; at < PLACES; at++) {
                sizes += of(at, SIZE);
            }
            return sizes;
        }

        /** Bits of all bags. */
        int bags() {
            return bagsWith(SIZE, 1);
        }

        /** Bits of the bags of which what is told is so much or more. */
        int bagsWith(int what, int least) {
            int bits = 0;
            for (int at = 0; at < PLACES; at++) {
                if (has(at) && of(at, what) >= least) {
                    bits |= 1 << at;
                }
            }
            return bits;
        }

        int due(int at, Office office) {
            return has(at) ? of(at, STAY) * office.ruleOf(Office.PENCE) : 0;
        }

        /** The bag is called for: the coins that it brings. */
        int handOut(int at, Office office) {
            int due = due(at, office);
            gain(due);
            empty(at);
            return due;
        }

        /** A day goes by. */
        void pass(Laws laws, Office office) {
            fell = 0;
            ended = 0;
            // All bags grow by what was so as the day began, so nobody changes before all are reckoned.
            for (int at = 0; at < PLACES; at++) {
                perBag[at] = has(at) && of(at, HUSHED) == 0 ? laws.growth(this, at) : 0;
            }
            for (int at = 0; at < PLACES; at++) {
                if (has(at) && of(at, HUSHED) == 0) {
                    answer(at, perBag[at]);
                }
            }
            for (int shelf = 0; shelf < office.ruleOf(Office.SHELVES); shelf++) {
                unburden(shelf, office.ruleOf(Office.WIDE));
            }
            for (int at = 0; at < PLACES; at++) {
                if (has(at)) {
                    set(at, HUSHED, 0);
                    set(at, STAY, Math.min(STAY_MAX, of(at, STAY) + 1));
                }
            }
            cells[DAY_CELL]++;
        }

        private void answer(int at, int growth) {
            int size = Math.max(0, Math.min(SIZE_MAX, of(at, SIZE) + growth));
            set(at, SIZE, size);
            set(at, LAST_WORD, 1 - of(at, LAST_WORD));
            if (size == 0) {
                ended |= 1 << at;
            }
        }

        private void unburden(int shelf, int wide) {
            for (int i = 0; i < PLACES && loadOn(shelf) > wide; i++) {
                int largest = largestOn(shelf);
                if (largest != NONE) {
                    set(largest, SHELF, FLOOR);
                    fell |= 1 << largest;
                }
            }
        }

        private int largestOn(int shelf) {
            int largest = NONE;
            int most = 0;
            for (int at = 0; at < PLACES; at++) {
                if (has(at) && of(at, SHELF) == shelf && of(at, SIZE) > most) {
                    largest = at;
                    most = of(at, SIZE);
                }
            }
            return largest;
        }

        boolean setOff(int one, int other) {
            return Math.abs(of(one, SIZE) - of(other, SIZE)) <= NEAR_SIZES
                    || of(one, SIDE_ONE) + of(one, SIDE_OTHER) == of(other, SIDE_ONE) + of(other, SIDE_OTHER);
        }

        /** Bits of the bags that set this one off, its own bit with them. */
        int circleOf(int at) {
            int bits = 0;
            for (int other = 0; other < PLACES; other++) {
                if (has(other) && setOff(at, other)) {
                    bits |= 1 << other;
                }
            }
            return bits;
        }

        int quarrels() {
            int both = 0;
            for (int at = 0; at < PLACES; at++) {
                if (has(at)) {
                    both += Integer.bitCount(circleOf(at)) - 1;
                }
            }
            return both / 2;
        }

        /** The most bags of which each two set one another off, as bits; of several the least. */
        int loudestCrowd() {
            for (int at = 0; at < PLACES; at++) {
                perBag[at] = has(at) ? circleOf(at) : 0;
            }
            int best = 0;
            for (int bits = 1; bits < 1 << PLACES; bits++) {
                if (Integer.bitCount(bits) > Integer.bitCount(best) && isCrowd(bits)) {
                    best = bits;
                }
            }
            return best;
        }

        private boolean isCrowd(int bits) {
            for (int at = 0; at < PLACES; at++) {
                if ((bits >> at & 1) == 1 && (bits & ~perBag[at]) != 0) {
                    return false;
                }
            }
            return true;
        }

        /** The fewest bags to be sold that bring so much, as bits; of several the least; NONE: by none. */
        int fewestWorth(int coins) {
            int ripe = bagsWith(STAY, RIPE_DAYS);
            int best = NONE;
            for (int bits = 1; bits < 1 << PLACES; bits++) {
                boolean fewer = best == NONE || Integer.bitCount(bits) < Integer.bitCount(best);
                if (fewer && (bits & ~ripe) == 0 && sizesOf(bits) >= coins) {
                    best = bits;
                }
            }
            return best;
        }

        private int sizesOf(int bits) {
            int sizes = 0;
            for (int at = 0; at < PLACES; at++) {
                if ((bits >> at & 1) == 1) {
                    sizes += of(at, SIZE);
                }
            }
            return sizes;
        }
    }

    /** What each day left behind. A day's row is found by the day, so that an undone day needs no care here. */
    private static final class Chronicle {
        private static final int SHOWN_MAX = 60;
        // As many as are shown behind forty days undone.
        private static final int KEPT = 100;
        private static final int COLUMNS = 3;

        private final int[] rows = new int[KEPT * COLUMNS];

        void put(int day, int fell, int ended, int sizes) {
            int row = rowOf(day);
            rows[row] = fell;
            rows[row + 1] = ended;
            rows[row + 2] = sizes;
        }

        private static int rowOf(int day) {
            return Math.floorMod(day, KEPT) * COLUMNS;
        }

        static int lengthOn(int day) {
            return Math.min(day, SHOWN_MAX);
        }

        int told(int today, int i, int what) {
            if (i < 0 || i >= lengthOn(today) || what < 0 || what >= COLUMNS) {
                return NONE;
            }
            return rows[rowOf(today - 1 - i) + what];
        }

        void become(Chronicle other) {
            System.arraycopy(other.rows, 0, rows, 0, rows.length);
        }
    }

    /** How all was ahead of the latest acts. */
    private static final class Acts {
        private static final int KEPT = 40;

        private final int[] ring = new int[KEPT * Room.CELLS];
        private int top = 0;
        private int number = 0;

        int number() {
            return number;
        }

        void forget() {
            number = 0;
        }

        void keep(Room room) {
            room.copyTo(ring, top * Room.CELLS);
            top = (top + 1) % KEPT;
            number = Math.min(KEPT, number + 1);
        }

        boolean takeBack(Room room) {
            if (number < 1) {
                return false;
            }
            top = (top + KEPT - 1) % KEPT;
            number--;
            room.copyFrom(ring, top * Room.CELLS);
            return true;
        }
    }

    /** What would be, worked out in rooms of its own. */
    private static final class Forecast {
        static final int ODDS_DAYS = 6;
        static final int WAY_MAX = 3;
        private static final int WAYS = WAY_MAX + 1;
        private static final int GAME_DAYS = 3;
        private static final int GAME_STAKE = 30;
        private static final int GAME_PRICE = 2;
        private static final int GAME_LAST = 3;
        private static final long ALL_PARTS = 1000000000L;

        private final Laws laws;
        private final Office office;
        private final Room scene = new Room();
        private final Room[] scenes = new Room[ODDS_DAYS + 1];
        private final int[] outcomes = new int[WAYS * WAYS * 2];
        private int askedBag = 0;
        private int askedDays = 0;
        private int askedSize = 0;
        private int askedChance = 0;

        Forecast(Laws laws, Office office) {
            this.laws = laws;
            this.office = office;
            for (int i = 0; i <= ODDS_DAYS; i++) {
                scenes[i] = new Room();
            }
        }

        int sizeBehind(Room now, int at, int n) {
            scene.become(now);
            for (int i = 0; i < n && scene.has(at); i++) {
                scene.pass(laws, office);
            }
            return scene.of(at, SIZE);
        }

        int daysToEnd(Room now, int at) {
            scene.become(now);
            for (int i = 1; i <= AHEAD_MAX; i++) {
                scene.pass(laws, office);
                if (!scene.has(at)) {
                    return i;
                }
            }
            return NONE;
        }

        int daysToFall(Room now, int at) {
            scene.become(now);
            for (int i = 1; i <= AHEAD_MAX && scene.has(at); i++) {
                scene.pass(laws, office);
                if ((scene.fell() >> at & 1) == 1) {
                    return i;
                }
            }
            return NONE;
        }

        /** What both sides have, if they give way by x and y. */
        void play(Room now, int at, int x, int y) {
            int one = Math.max(0, now.of(at, SIDE_ONE) - x);
            int other = Math.max(0, now.of(at, SIDE_OTHER) - y);
            scene.clear();
            scene.setDay(now.day());
            scene.put(0, now.of(at, SIZE), one, other, now.of(at, SHELF), now.of(at, LAST_WORD));
            scene.set(0, STAY, now.of(at, STAY));
            for (int i = 0; i < GAME_DAYS && scene.has(0); i++) {
                scene.pass(laws, office);
            }
            boolean over = !scene.has(0);
            int last = scene.of(0, LAST_WORD);
            int left = GAME_STAKE - scene.of(0, SIZE);
            keepOutcome(x, y, 0, left - GAME_PRICE * x + (over || last == 0 ? GAME_LAST : 0));
            keepOutcome(x, y, 1, left - GAME_PRICE * y + (over || last == 1 ? GAME_LAST : 0));
        }

        private static int outcomeCell(int x, int y, int side) {
            return (x * WAYS + y) * 2 + side;
        }

        private void keepOutcome(int x, int y, int side, int value) {
            int cell = outcomeCell(x, y, side);
            if (cell >= 0 && cell < outcomes.length) {
                outcomes[cell] = value;
            }
        }

        int outcome(int x, int y, int side) {
            int cell = outcomeCell(x, y, side);
            return cell >= 0 && cell < outcomes.length ? outcomes[cell] : HIDDEN;
        }

        /** How many resting points there are (i NONE), the i-th; NONE: no such one. */
        int restingPoint(Room now, int at, int i) {
            for (int way = 0; way < WAYS * WAYS; way++) {
                play(now, at, way / WAYS, way % WAYS);
            }
            int found = 0;
            for (int way = 0; way < WAYS * WAYS; way++) {
                if (isRest(way / WAYS, way % WAYS)) {
                    if (found == i) {
                        return way / WAYS * 10 + way % WAYS;
                    }
                    found++;
                }
            }
            return i == NONE ? found : NONE;
        }

        private boolean isRest(int x, int y) {
            for (int way = 0; way < WAYS; way++) {
                if (outcome(way, y, 0) > outcome(x, y, 0) || outcome(x, way, 1) > outcome(x, y, 1)) {
                    return false;
                }
            }
            return true;
        }

        /** Of all parts those by which the bag is of such a size, or larger, behind n days. */
        int partsOf(Room now, int at, int n, int v, int chance) {
            scenes[0].become(now);
            askedBag = at;
            askedDays = n;
            askedSize = v;
            askedChance = chance;
            return (int) partsFrom(0, ALL_PARTS);
        }

        private long partsFrom(int gone, long parts) {
            if (parts == 0 || gone < 0 || gone > ODDS_DAYS) {
                return 0;
            }
            Room here = scenes[gone];
            if (gone >= askedDays || !here.has(askedBag)) {
                return here.of(askedBag, SIZE) >= askedSize ? parts : 0;
            }
            // Only ahead of the first day can it be hushed already: then it is in any case.
            boolean sure = here.of(askedBag, HUSHED) == 1;
            long hushed = sure ? parts : parts * askedChance / 100;
            return partsBehindDay(gone, hushed, 1) + partsBehindDay(gone, parts - hushed, 0);
        }

        private long partsBehindDay(int gone, long parts, int hushed) {
            if (parts == 0 || gone < 0 || gone >= ODDS_DAYS) {
                return 0;
            }
            Room then = scenes[gone + 1];
            then.become(scenes[gone]);
            then.set(askedBag, HUSHED, hushed);
            then.pass(laws, office);
            return partsFrom(gone + 1, parts);
        }
    }

    /** What was seen of told bags, and how large they may have been by it. */
    private static final class Sightings {
        static final int DAYS_MAX = 9;
        private static final int SEEN_MAX = 10;

        private final Laws laws;
        private final Office office;
        private final Room scene = new Room();
        private final int[] whose = new int[SEEN_MAX];
        private final int[] behind = new int[SEEN_MAX];
        private final int[] marks = new int[SEEN_MAX];
        private final boolean[] reached = new boolean[SEEN_MAX];
        private final int[] fitting = new int[LEFT_SIZE_MAX];
        private int number = 0;

        Sightings(Laws laws, Office office) {
            this.laws = laws;
            this.office = office;
        }

        void forget() {
            number = 0;
        }

        int number() {
            return number;
        }

        int add(int told, int n, int v, boolean more) {
            if (number < 0 || number >= SEEN_MAX) {
                return NONE;
            }
            whose[number] = told;
            behind[number] = n;
            marks[number] = v;
            reached[number] = more;
            number++;
            return number;
        }

        /** How many sizes fit (i NONE), the i-th of them; NONE: no such one. */
        int possible(int told, int i) {
            int found = gatherFitting(told);
            if (i == NONE) {
                return found;
            }
            return i >= 0 && i < found && i < fitting.length ? fitting[i] : NONE;
        }

        private int gatherFitting(int told) {
            int found = 0;
            for (int size = 1; size <= LEFT_SIZE_MAX; size++) {
                if (found < fitting.length && fits(told, size)) {
                    fitting[found] = size;
                    found++;
                }
            }
            return found;
        }

        private boolean fits(int told, int size) {
            int last = lastDaySeen(told);
            setScene(told, size);
            for (int day = 1; day <= last; day++) {
                scene.pass(laws, office);
                if (!agrees(told, day, scene.of(0, SIZE))) {
                    return false;
                }
            }
            return true;
        }

        private int lastDaySeen(int told) {
            int last = 0;
            for (int i = 0; i < number && i < SEEN_MAX; i++) {
                if (whose[i] == told) {
                    last = Math.max(last, behind[i]);
                }
            }
            return last;
        }

        private boolean agrees(int told, int day, int size) {
            for (int i = 0; i < number && i < SEEN_MAX; i++) {
                if (whose[i] == told && behind[i] == day && (size >= marks[i]) != reached[i]) {
                    return false;
                }
            }
            return true;
        }

        private void setScene(int told, int size) {
            scene.clear();
            scene.put(0, size, office.toldOf(told, SIDE_ONE), office.toldOf(told, SIDE_OTHER),
                    office.toldOf(told, SHELF), office.toldOf(told, LAST_WORD));
        }

        /** The mark that parts the sizes that fit most evenly behind n days; NONE: nothing fits. */
        int bestMark(int told, int n) {
            int found = gatherFitting(told);
            if (found == 0) {
                return NONE;
            }
            for (int i = 0; i < found && i < fitting.length; i++) {
                fitting[i] = sizeBehind(told, fitting[i], n);
            }
            int best = NONE;
            int bestGap = 0;
            for (int mark = 0; mark <= SIZE_MAX; mark++) {
                int gap = gapAt(mark, found);
                if (best == NONE || gap < bestGap) {
                    best = mark;
                    bestGap = gap;
                }
            }
            return best;
        }

        private int sizeBehind(int told, int size, int n) {
            setScene(told, size);
            for (int i = 0; i < n && scene.has(0); i++) {
                scene.pass(laws, office);
            }
            return scene.of(0, SIZE);
        }

        private int gapAt(int mark, int found) {
            int balance = 0;
            for (int i = 0; i < found && i < fitting.length; i++) {
                balance += fitting[i] >= mark ? 1 : -1;
            }
            return Math.abs(balance);
        }
    }

    /** Looks for the least row of shelves for all bags, on the fewest shelves. */
    private static final class Rows {
        private final int[] sizes = new int[PLACES];
        private final int[] circles = new int[PLACES];
        private final int[] places = new int[PLACES];
        private final int[] chosen = new int[PLACES];
        private final int[] loads = new int[PLACES];
        private final int[] standing = new int[PLACES];
        private int bags = 0;
        private int wide = 0;
        private boolean byRoom = false;

        void gather(Room room) {
            bags = 0;
            for (int at = 0; at < PLACES; at++) {
                if (room.has(at) && bags < PLACES) {
                    places[bags] = at;
                    sizes[bags] = room.of(at, SIZE);
                    circles[bags] = room.circleOf(at);
                    bags++;
                }
            }
        }

        int fewestByRoom(int shelves, int widest) {
            byRoom = true;
            wide = widest;
            return fewest(shelves);
        }

        int fewestByPeace() {
            byRoom = false;
            return fewest(PLACES);
        }

        private int fewest(int shelves) {
            for (int limit = 0; limit <= shelves && limit <= PLACES; limit++) {
                Arrays.fill(loads, 0);
                Arrays.fill(standing, 0);
                if (place(0, 0, limit)) {
                    return limit;
                }
            }
            return NONE;
        }

        /** The row that was found last; NONE: there is no bag. */
        int row() {
            int row = 0;
            for (int i = 0; i < bags && i < PLACES; i++) {
                row = row * 10 + chosen[i];
            }
            return bags == 0 ? NONE : row;
        }

        // Shelves are alike, so the least row never leaves out a lower shelf that is still empty.
        private boolean place(int bag, int used, int limit) {
            if (bag < 0 || bag >= bags || bag >= PLACES) {
                return true;
            }
            for (int shelf = 0; shelf <= used && shelf < limit && shelf < PLACES; shelf++) {
                if (standsWell(bag, shelf)) {
                    chosen[bag] = shelf;
                    loads[shelf] += sizes[bag];
                    standing[shelf] |= 1 << places[bag];
                    if (place(bag + 1, Math.max(used, shelf + 1), limit)) {
                        return true;
                    }
                    loads[shelf] -= sizes[bag];
                    standing[shelf] &= ~(1 << places[bag]);
                }
            }
            return false;
        }

        private boolean standsWell(int bag, int shelf) {
            if (bag < 0 || bag >= PLACES || shelf < 0 || shelf >= PLACES) {
                return false;
            }
            return byRoom ? loads[shelf] + sizes[bag] <= wide : (standing[shelf] & circles[bag]) == 0;
        }
    }
}
