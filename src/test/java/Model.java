import java.util.ArrayDeque;
import java.util.ArrayList;
import java.util.Arrays;
import java.util.Deque;
import java.util.List;
import java.util.NoSuchElementException;

/** The document once more, as plainly as can be: everything is copied, tried out and worked off its text. */
final class Model {
    static final int NONE = -1;
    static final int HIDDEN = -1000000;

    private static final class Bag {
        int size, one, other, shelf, last, stay;
        boolean hushed;

        Bag copy() {
            Bag b = new Bag();
            b.size = size;
            b.one = one;
            b.other = other;
            b.shelf = shelf;
            b.last = last;
            b.stay = stay;
            b.hushed = hushed;
            return b;
        }

        int stubborn(int side) {
            return side == 0 ? one : other;
        }
    }

    private static final class State {
        Bag[] places = new Bag[8];
        int coins, day;
        List<int[]> log = new ArrayList<>();

        State copy() {
            State s = new State();
            for (int i = 0; i < 8; i++) {
                s.places[i] = places[i] == null ? null : places[i].copy();
            }
            s.coins = coins;
            s.day = day;
            s.log = new ArrayList<>(log);
            return s;
        }

        Bag at(int i) {
            return i < 0 || i > 7 ? null : places[i];
        }

        int load(int shelf) {
            int all = 0;
            for (Bag b : places) {
                all += b != null && b.shelf == shelf ? b.size : 0;
            }
            return all;
        }

        int all() {
            int all = 0;
            for (Bag b : places) {
                all += b == null ? 0 : b.size;
            }
            return all;
        }
    }

    private String tape = "";
    private int wide, shelves, pence;
    private final List<Bag> told = new ArrayList<>();
    private final List<String> laws = new ArrayList<>();
    private final List<int[]> seen = new ArrayList<>();
    private final Deque<State> acts = new ArrayDeque<>();
    private final int[] status = new int[5];
    private int holds = NONE;
    private int trains = 5;
    private State now = null;
    private State kept = null;

    // ---- texts

    int feed(int... words) {
        StringBuilder more = new StringBuilder(tape);
        for (int w : words) {
            for (int k = 3; k >= 0; k--) {
                char c = (char) (w >> 8 * k & 255);
                if (c != 0) {
                    more.append(c);
                }
            }
        }
        if (more.length() > 240) {
            return NONE;
        }
        tape = more.toString();
        return tape.length();
    }

    boolean end(int n) {
        if (n < 0 || n > tape.length()) {
            return false;
        }
        tape = tape.substring(0, n);
        return true;
    }

    int fault(int sort) {
        return sort == 0 ? OfficeText.fault(tape) : sort == 1 ? LawText.fault(tape) : -2;
    }

    int text(int sort) {
        if (sort < 0 || sort > 1 || fault(sort) != NONE || sort == 1 && laws.size() == 4) {
            return NONE;
        }
        String text = tape.replace(" ", "");
        tape = "";
        if (sort == 1) {
            laws.add(text);
            return laws.size() - 1;
        }
        open(text);
        return told.size();
    }

    private void open(String text) {
        told.clear();
        seen.clear();
        acts.clear();
        kept = null;
        now = new State();
        wide = 20;
        shelves = 3;
        pence = 4;
        now.coins = 20;
        for (String clause : text.split(";")) {
            if (clause.charAt(0) == 's') {
                wide = OfficeText.item(clause, 'w', wide);
                shelves = OfficeText.item(clause, 'n', shelves);
                pence = OfficeText.item(clause, 'f', pence);
                now.coins = OfficeText.item(clause, 'k', now.coins);
            } else {
                Bag b = new Bag();
                b.size = OfficeText.item(clause, 'z', 3);
                b.one = OfficeText.item(clause, 'a', 4);
                b.other = OfficeText.item(clause, 'c', 3);
                b.shelf = OfficeText.item(clause, 'h', 0);
                b.last = OfficeText.item(clause, 'l', 0);
                now.places[told.size()] = b.copy();
                told.add(b);
            }
        }
    }

    // ---- days

    private int growth(State s, Bag b) {
        int others = 0;
        for (Bag o : s.places) {
            others += o != null && o != b && o.shelf == b.shelf ? 1 : 0;
        }
        int answering = b.stubborn(1 - b.last);
        int[] letters = {b.size, answering, b.stubborn(b.last), others, b.stay, s.day % 100};
        int free = holds == NONE ? answering / 2 + others - 1 : LawText.worth(laws.get(holds), letters);
        return Math.max(-9, Math.min(9, free));
    }

    private int[] pass(State s) {
        int[] grow = new int[8];
        for (int i = 0; i < 8; i++) {
            grow[i] = s.places[i] == null ? 0 : growth(s, s.places[i]);
        }
        int fell = 0;
        int ended = 0;
        for (int i = 0; i < 8; i++) {
            Bag b = s.places[i];
            if (b != null && !b.hushed) {
                b.size = Math.max(0, Math.min(99, b.size + grow[i]));
                b.last = 1 - b.last;
                if (b.size == 0) {
                    s.places[i] = null;
                    ended |= 1 << i;
                }
            }
        }
        for (int shelf = 0; shelf < shelves; shelf++) {
            while (s.load(shelf) > wide) {
                int top = -1;
                for (int i = 7; i >= 0; i--) {
                    Bag b = s.places[i];
                    if (b != null && b.shelf == shelf && (top < 0 || b.size >= s.places[top].size)) {
                        top = i;
                    }
                }
                s.places[top].shelf = 9;
                fell |= 1 << top;
            }
        }
        int[] row = {fell, ended, s.all()};
        s.log.add(0, row);
        while (s.log.size() > 60) {
            s.log.remove(60);
        }
        for (Bag b : s.places) {
            if (b != null) {
                b.hushed = false;
                b.stay = Math.min(99, b.stay + 1);
            }
        }
        s.day++;
        return row;
    }

    private void act() {
        acts.push(now.copy());
        if (acts.size() > 40) {
            acts.removeLast();
        }
    }

    private int refuse(int why) {
        status[why]++;
        return NONE;
    }

    private Bag bagAt(int at) {
        return now == null ? null : now.at(at);
    }

    private boolean shelfStands(int shelf) {
        return now != null && shelf >= 0 && shelf < shelves;
    }

    private int free() {
        for (int i = 0; i < 8; i++) {
            if (now.places[i] == null) {
                return i;
            }
        }
        return NONE;
    }

    // ---- the face

    int rule(int what) {
        return now == null || what < 0 || what > 3 ? NONE : new int[] {wide, shelves, pence, now.coins}[what];
    }

    int bag(int at, int what) {
        Bag b = bagAt(at);
        if (b == null || what < 0 || what > 7) {
            throw new NoSuchElementException();
        }
        return new int[] {b.size, b.one, b.other, b.shelf, b.last, b.stay, b.hushed ? 1 : 0, growth(now, b)}[what];
    }

    int load(int shelf) {
        return now == null || shelf != 9 && !shelfStands(shelf) ? NONE : now.load(shelf);
    }

    boolean law(int law) {
        if (law < NONE || law >= laws.size()) {
            return false;
        }
        holds = law;
        return true;
    }

    int days(int n) {
        if (now == null) {
            return refuse(0);
        }
        if (n < 1 || n > 60) {
            return refuse(1);
        }
        if (now.day + n > 999) {
            return refuse(4);
        }
        for (int i = 0; i < n; i++) {
            act();
            pass(now);
        }
        return now.day;
    }

    private void put(int at, int size, int one, int other, int shelf) {
        Bag b = new Bag();
        b.size = size;
        b.one = one;
        b.other = other;
        b.shelf = shelf;
        now.places[at] = b;
    }

    int leave(int size, int one, int other, int shelf) {
        if (now == null) {
            return refuse(0);
        }
        if (size < 1 || size > 30 || one < 0 || one > 9 || other < 0 || other > 9 || !shelfStands(shelf)) {
            return refuse(1);
        }
        int at = free();
        if (at == NONE || now.load(shelf) + size > wide) {
            return refuse(3);
        }
        act();
        put(at, size, one, other, shelf);
        return at;
    }

    private int takeOut(int at, int coins) {
        now.coins = Math.min(999, now.coins + coins);
        now.places[at] = null;
        return coins;
    }

    int call(int at) {
        if (bagAt(at) == null) {
            return refuse(0);
        }
        act();
        return takeOut(at, now.places[at].stay * pence);
    }

    int move(int at, int shelf) {
        Bag b = bagAt(at);
        if (b == null) {
            return refuse(0);
        }
        if (shelf != 9 && !shelfStands(shelf)) {
            return refuse(1);
        }
        if (b.shelf == shelf) {
            return refuse(2);
        }
        if (shelf != 9 && (now.coins == 0 || now.load(shelf) + b.size > wide)) {
            return refuse(3);
        }
        act();
        int was = b.shelf;
        now.places[at].shelf = shelf;
        now.coins -= shelf == 9 ? 0 : 1;
        return was;
    }

    int hush(int at) {
        Bag b = bagAt(at);
        if (b == null) {
            return refuse(0);
        }
        if (b.hushed) {
            return refuse(2);
        }
        if (now.coins == 0) {
            return refuse(3);
        }
        act();
        b.hushed = true;
        return --now.coins;
    }

    int sell(int at) {
        Bag b = bagAt(at);
        if (b == null) {
            return refuse(0);
        }
        if (b.stay < 7) {
            return refuse(2);
        }
        act();
        return takeOut(at, b.size);
    }

    int give(int n) {
        if (now == null) {
            return refuse(0);
        }
        if (n < 1 || n > 50 || now.coins + n > 999) {
            return refuse(1);
        }
        act();
        now.coins += n;
        return now.coins;
    }

    boolean trains(int v) {
        if (v < 0 || v > 9 || v == trains) {
            return false;
        }
        trains = v;
        return true;
    }

    int years(int n, long seed) {
        if (now == null || n < 1 || n > 60 || now.day + n > 999) {
            return NONE;
        }
        long[] x = {seed};
        for (int i = 0; i < n; i++) {
            act();
            if (draw(x, 10) < trains) {
                int size = draw(x, 9) + 1;
                int one = draw(x, 10);
                int other = draw(x, 10);
                int shelf = draw(x, shelves);
                if (free() != NONE && now.load(shelf) + size <= wide) {
                    put(free(), size, one, other, shelf);
                }
            }
            int at = draw(x, 16);
            if (bagAt(at) != null) {
                takeOut(at, now.places[at].stay * pence);
            }
            pass(now);
        }
        return now.day;
    }

    private static int draw(long[] x, int j) {
        x[0] = x[0] * 6364136223846793005L + 1442695040888963407L;
        return (int) Long.remainderUnsigned(x[0] >>> 33, j);
    }

    int status(int what) {
        return what < 0 || what > 4 ? NONE : status[what];
    }

    int undo() {
        if (acts.isEmpty()) {
            return NONE;
        }
        now = acts.pop();
        return acts.size();
    }

    int log(int i, int what) {
        return now == null || i < 0 || i >= now.log.size() || what < 0 || what > 2 ? NONE : now.log.get(i)[what];
    }

    int large(int at, int n) {
        if (bagAt(at) == null || n < 0 || n > 99) {
            return NONE;
        }
        State s = now.copy();
        for (int i = 0; i < n; i++) {
            pass(s);
        }
        return s.places[at] == null ? 0 : s.places[at].size;
    }

    int ends(int at) {
        return bagAt(at) == null ? NONE : firstDay(at, 1);
    }

    int falls(int at) {
        return bagAt(at) == null || bagAt(at).shelf == 9 ? NONE : firstDay(at, 0);
    }

    private int firstDay(int at, int column) {
        State s = now.copy();
        for (int i = 1; i <= 99; i++) {
            if ((pass(s)[column] >> at & 1) == 1) {
                return i;
            }
        }
        return NONE;
    }

    private List<Bag> bags() {
        List<Bag> bags = new ArrayList<>();
        for (Bag b : now.places) {
            if (b != null) {
                bags.add(b);
            }
        }
        return bags;
    }

    private interface Row {
        boolean good(int[] row);
    }

    /** Every row of shelves below the limit, rising: the first good one, or null. */
    private static int[] leastRow(int length, int limit, Row rule) {
        int[] row = new int[length];
        while (true) {
            if (rule.good(row)) {
                return row;
            }
            int i = length - 1;
            while (i >= 0 && row[i] == limit - 1) {
                row[i--] = 0;
            }
            if (i < 0) {
                return null;
            }
            row[i]++;
        }
    }

    private int fewest(int what, int most, Row rule) {
        int length = bags().size();
        if (length == 0) {
            return what == 0 ? NONE : 0;
        }
        for (int limit = 1; limit <= most; limit++) {
            int[] row = leastRow(length, limit, rule);
            if (row != null) {
                int number = 0;
                for (int digit : row) {
                    number = number * 10 + digit;
                }
                return what == 0 ? number : limit;
            }
        }
        return NONE;
    }

    int shelved(int what) {
        if (now == null || what < 0 || what > 1) {
            return NONE;
        }
        List<Bag> bags = bags();
        return fewest(what, shelves, row -> {
            int[] loads = new int[5];
            for (int i = 0; i < row.length; i++) {
                loads[row[i]] += bags.get(i).size;
            }
            return Arrays.stream(loads).max().getAsInt() <= wide;
        });
    }

    private static boolean off(Bag b, Bag c) {
        return Math.abs(b.size - c.size) < 3 || b.one + b.other == c.one + c.other;
    }

    int sets(int one, int other) {
        return bagAt(one) == null || bagAt(other) == null || one == other ? NONE : off(bagAt(one), bagAt(other)) ? 1 : 0;
    }

    int apart(int what) {
        if (now == null || what < 0 || what > 1) {
            return NONE;
        }
        List<Bag> bags = bags();
        return fewest(what, 8, row -> {
            for (int i = 0; i < row.length; i++) {
                for (int j = 0; j < i; j++) {
                    if (row[i] == row[j] && off(bags.get(i), bags.get(j))) {
                        return false;
                    }
                }
            }
            return true;
        });
    }

    int roar() {
        if (now == null) {
            return NONE;
        }
        int best = 0;
        for (int bits = 255; bits > 0; bits--) {
            boolean good = true;
            for (int i = 0; i < 8; i++) {
                for (int j = 0; j <= i; j++) {
                    if ((bits >> i & 1) == 1 && (bits >> j & 1) == 1) {
                        good &= now.at(i) != null && now.at(j) != null && off(now.at(i), now.at(j));
                    }
                }
            }
            if (good && Integer.bitCount(bits) >= Integer.bitCount(best)) {
                best = bits;
            }
        }
        return best;
    }

    int seen(int t, int n, int v, boolean more) {
        if (t < 0 || t >= told.size() || n < 1 || n > 9 || v < 0 || v > 99 || seen.size() == 10) {
            return NONE;
        }
        seen.add(new int[] {t, n, v, more ? 1 : 0});
        return seen.size();
    }

    private int alone(Bag b, int day, int n) {
        State s = new State();
        s.places[3] = b.copy();
        s.day = day;
        for (int i = 0; i < n; i++) {
            pass(s);
        }
        return s.places[3] == null ? 0 : s.places[3].size * 2 + s.places[3].last;
    }

    private int toldBehind(int t, int size, int n) {
        Bag b = told.get(t).copy();
        b.size = size;
        return alone(b, 0, n) / 2;
    }

    private List<Integer> fitting(int t) {
        List<Integer> fit = new ArrayList<>();
        for (int size = 1; size <= 30; size++) {
            boolean good = true;
            for (int[] s : seen) {
                if (s[0] == t) {
                    good &= toldBehind(t, size, s[1]) >= s[2] == (s[3] == 1);
                }
            }
            if (good) {
                fit.add(size);
            }
        }
        return fit;
    }

    int sizes(int t, int i) {
        if (t < 0 || t >= told.size()) {
            return NONE;
        }
        List<Integer> fit = fitting(t);
        return i == NONE ? fit.size() : i < 0 || i >= fit.size() ? NONE : fit.get(i);
    }

    int ask(int t, int n) {
        if (t < 0 || t >= told.size() || n < 1 || n > 9 || fitting(t).isEmpty()) {
            return NONE;
        }
        List<Integer> then = new ArrayList<>();
        for (int size : fitting(t)) {
            then.add(toldBehind(t, size, n));
        }
        int best = 0;
        int gap = Integer.MAX_VALUE;
        for (int v = 0; v < 100; v++) {
            int mark = v;
            int more = (int) then.stream().filter(size -> size >= mark).count();
            int apart = Math.abs(more - (then.size() - more));
            if (apart < gap) {
                gap = apart;
                best = v;
            }
        }
        return best;
    }

    int sale(int c) {
        if (now == null || c < 1 || c > 400) {
            return NONE;
        }
        for (int number = 1; number <= 8; number++) {
            for (int bits = 1; bits < 256; bits++) {
                int sum = 0;
                for (int i = 0; i < 8; i++) {
                    if ((bits >> i & 1) == 1) {
                        sum += now.at(i) == null || now.at(i).stay < 7 ? -10000 : now.at(i).size;
                    }
                }
                if (Integer.bitCount(bits) == number && sum >= c) {
                    return bits;
                }
            }
        }
        return NONE;
    }

    int game(int at, int x, int y, int what) {
        if (bagAt(at) == null || x < 0 || x > 3 || y < 0 || y > 3 || what < 0 || what > 1) {
            return HIDDEN;
        }
        Bag b = bagAt(at).copy();
        b.one = Math.max(0, b.one - x);
        b.other = Math.max(0, b.other - y);
        b.hushed = false;
        int then = alone(b, now.day, 3);
        return 30 - then / 2 - 2 * (what == 0 ? x : y) + (then == 0 || then % 2 == what ? 3 : 0);
    }

    int rests(int at, int i) {
        if (bagAt(at) == null) {
            return NONE;
        }
        List<Integer> found = new ArrayList<>();
        for (int x = 0; x < 4; x++) {
            for (int y = 0; y < 4; y++) {
                boolean rest = true;
                for (int k = 0; k < 4; k++) {
                    rest &= game(at, k, y, 0) <= game(at, x, y, 0) && game(at, x, k, 1) <= game(at, x, y, 1);
                }
                if (rest) {
                    found.add(10 * x + y);
                }
            }
        }
        return i == NONE ? found.size() : i < 0 || i >= found.size() ? NONE : found.get(i);
    }

    int odds(int at, int n, int v, int chance) {
        if (bagAt(at) == null || n < 0 || n > 6 || v < 0 || v > 99 || chance < 0 || chance > 100) {
            return NONE;
        }
        long good = 0;
        for (int way = 0; way < 1 << n; way++) {
            long parts = 1000000000L;
            State s = now.copy();
            for (int i = 0; i < n; i++) {
                long hushed = i == 0 && bagAt(at).hushed ? parts : parts * chance / 100;
                boolean hush = (way >> i & 1) == 1;
                parts = hush ? hushed : parts - hushed;
                if (s.places[at] != null) {
                    s.places[at].hushed = hush;
                }
                pass(s);
            }
            good += (s.places[at] == null ? 0 : s.places[at].size) >= v ? parts : 0;
        }
        return (int) good;
    }

    int shares(int at, int c) {
        return bagAt(at) == null || c < 0 || c > 999 ? NONE : c * bagAt(at).size / now.all();
    }

    int most(int what) {
        if (now == null || what < 0 || what > 12) {
            return NONE;
        }
        int bits = 0;
        int sum = 0;
        int best = NONE;
        int bestWorth = Integer.MIN_VALUE;
        for (int i = 0; i < 8; i++) {
            Bag b = now.at(i);
            if (b == null) {
                continue;
            }
            boolean[] flags = {true, b.shelf == 9, b.hushed};
            if (what == 11 ? b.stay >= 7 : what >= 5 && what <= 7 && flags[what - 5]) {
                bits |= 1 << i;
            }
            sum += what == 8 ? b.size : what == 10 ? b.stay * pence : 0;
            if (what == 12) {
                for (int j = 0; j < i; j++) {
                    sum += now.at(j) != null && off(b, now.at(j)) ? 1 : 0;
                }
            }
            int worth = what == 0 ? b.size : what == 1 ? b.stay : what == 2 ? b.one + b.other : growth(now, b);
            if (what < 4 && worth > bestWorth) {
                best = i;
                bestWorth = worth;
            }
        }
        for (int shelf = 0; shelf < shelves; shelf++) {
            sum += what == 9 ? Math.max(0, wide - now.load(shelf)) : 0;
            if (what == 4 && now.load(shelf) > bestWorth) {
                best = shelf;
                bestWorth = now.load(shelf);
            }
        }
        return what < 5 ? best : what < 8 || what == 11 ? bits : sum;
    }

    int image() {
        if (now == null) {
            return NONE;
        }
        kept = now.copy();
        return now.day;
    }

    int back() {
        if (kept == null) {
            return NONE;
        }
        now = kept.copy();
        acts.clear();
        return now.day;
    }

    int count(int what) {
        switch (what) {
            case 0: return told.size();
            case 1: return now == null ? 0 : bags().size();
            case 2: return laws.size();
            case 3: return tape.length();
            case 4: return holds;
            case 5: return now == null ? 0 : now.day;
            case 6: return trains;
            case 7: return seen.size();
            case 8: return now == null ? 0 : now.log.size();
            case 9: return acts.size();
            default: return HIDDEN;
        }
    }
}
