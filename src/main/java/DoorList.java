import java.util.Arrays;

/**
 * A list of names on a door, and voters with orders over all that could stand.
 * What each call answers is told, promise by promise, in the document DOC.md.
 */
public final class DoorList {
    public static final int NONE = -1;

    private static final int OK = 0;
    private static final int NO_TRAY = 1;
    private static final int NO_SUCH = 2;
    private static final int MISSING = 3;
    private static final int NO_PLACE = 4;
    private static final int NO_NUMBER = 5;
    private static final int BELOW = 6;
    private static final int TOO_MANY = 7;
    private static final int NONE_THERE = 8;
    private static final int CANNOT_BE = 9;
    private static final int FAULTY = 10;
    private static final int UNLIKE = 11;

    private static final int UP = 0;
    private static final int DOWN = 1;
    private static final int IN = 2;
    private static final int OUT = 3;

    private static final int MAY_UP = 1;
    private static final int MAY_DOWN = 2;
    private static final int MAY_IN = 4;
    private static final int MAY_OUT = 8;

    private static final int MOST_TRAYS = 4;
    private static final int MOST_CELLS = 60;
    private static final int MOST_BYTES = 700;
    private static final int MOST_RULE_BYTES = 200;
    private static final int MOST_ACTS_BYTES = 300;
    private static final int MOST_NAMES = 8;
    private static final int MOST_SORTS = 20;
    private static final int MOST_SEARCHED = 12;
    private static final int MOST_CLAUSES = 4;
    private static final int MOST_MARKS = 3;
    private static final int MOST_TOLD = 20;
    private static final int MOST_MOVED = 5;
    private static final int MOST_TURNS = 3;
    private static final int MOST_DOUBTED = 12;
    private static final int MOST_STRUCK = 12;
    private static final int MOST_STRUCK_SORTS = 8;
    private static final int LAST_SMALL = 99;

    private int status;
    private final Tray[] trays = new Tray[MOST_TRAYS];
    private final Tape tape = new Tape();
    private final Hall theHall = new Hall();
    private final Hall spareHall = new Hall();
    private final Rule theRule = new Rule();
    private final Rule spareRule = new Rule();
    private final Acts theActs = new Acts();
    private final Acts spareActs = new Acts();
    private final Hall[] markedHalls = new Hall[MOST_MARKS];
    private final Rule[] markedRules = new Rule[MOST_MARKS];
    private int marks;
    private final Count count = new Count(theHall, theRule);
    private final Search search = new Search(theHall, count);
    private final Found kept = new Found();
    private final Rivals rivals = new Rivals(theHall, count);
    private final Chances chances = new Chances(theHall, count);
    private final Doing doing = new Doing(theActs, theHall, count);

    public DoorList() {
        for (int i = 0; i < MOST_TRAYS; i++) {
            trays[i] = new Tray();
        }
        for (int i = 0; i < MOST_MARKS; i++) {
            markedHalls[i] = new Hall();
            markedRules[i] = new Rule();
        }
    }

    // ---- STATUS, FRACTION

    public int status() {
        return status;
    }

    public long top() {
        return chances.top;
    }

    public long bottom() {
        return chances.bottom;
    }

    private int fail(int why) {
        status = why;
        return NONE;
    }

    private boolean deny(int why) {
        status = why;
        return false;
    }

    private int answer(int what) {
        status = OK;
        return what;
    }

    private boolean agree() {
        status = OK;
        return true;
    }

    private boolean isName(int name) {
        return name >= 0 && name < theHall.names;
    }

    private boolean isSort(int sort) {
        return sort >= 0 && sort < theHall.sorts;
    }

    private boolean isSetOfNames(int set) {
        return (set & ~theHall.allNames()) == 0;
    }

    // ---- TRAYS

    public boolean tray(int tray, int sort, int many) {
        if (!isTray(tray) || sort < 0 || sort > Tray.LONGS) {
            return deny(NO_TRAY);
        }
        if (many > MOST_CELLS) {
            return deny(NO_NUMBER);
        }
        if (many < 0) {
            return deny(BELOW);
        }
        trays[tray].become(sort, many);
        return agree();
    }

    public boolean write(int tray, int place, long v) {
        int why = whyNoCell(tray, place);
        if (why != OK) {
            return deny(why);
        }
        trays[tray].put(place, v);
        return agree();
    }

    public long read(int tray, int place) {
        int why = whyNoCell(tray, place);
        if (why != OK) {
            return fail(why);
        }
        status = OK;
        return trays[tray].cells[place];
    }

    public boolean pour(int tray, int i, int to, int j, int many) {
        if (!isTray(tray) || !isTray(to)) {
            return deny(NO_TRAY);
        }
        Tray source = trays[tray];
        Tray target = trays[to];
        if (!source.there || !target.there) {
            return deny(MISSING);
        }
        if (source.sort != target.sort) {
            return deny(UNLIKE);
        }
        if (many < 0) {
            return deny(BELOW);
        }
        if (!source.has(i, many) || !target.has(j, many)) {
            return deny(NO_PLACE);
        }
        System.arraycopy(source.cells, i, target.cells, j, many);
        return agree();
    }

    private static boolean isTray(int tray) {
        return tray >= 0 && tray < MOST_TRAYS;
    }

    private int whyNoCell(int tray, int place) {
        if (!isTray(tray)) {
            return NO_TRAY;
        }
        if (!trays[tray].there) {
            return MISSING;
        }
        return trays[tray].has(place, 1) ? OK : NO_PLACE;
    }

    // ---- the HALL, the RULE

    public int feed(int a, int b, int c, int d, int e) {
        if (!tape.hasRoom()) {
            return NONE;
        }
        tape.add(a);
        tape.add(b);
        tape.add(c);
        tape.add(d);
        tape.add(e);
        return tape.size;
    }

    public int hall(int n) {
        if (!tape.open(n, MOST_BYTES)) {
            return fail(NO_NUMBER);
        }
        boolean taken = spareHall.readFrom(tape);
        tape.empty();
        if (!taken) {
            return fail(FAULTY);
        }
        theHall.copyFrom(spareHall);
        return answer(theHall.names);
    }

    public int rule(int n) {
        if (!tape.open(n, MOST_RULE_BYTES)) {
            return fail(NO_NUMBER);
        }
        boolean taken = spareRule.readFrom(tape);
        tape.empty();
        if (!taken) {
            return fail(FAULTY);
        }
        theRule.copyFrom(spareRule);
        return answer(theRule.clauses);
    }

    public int fault(int what) {
        if (what == 0) {
            return tape.faultKind;
        }
        return what == 1 ? tape.faultPlace : NONE;
    }

    public int many(int what) {
        switch (what) {
            case 0:
                return answer(theHall.names);
            case 1:
                return answer(theHall.sorts);
            case 2:
                return answer(theHall.votersIn());
            case 3:
                return answer(theRule.clauses);
            case 4:
                return answer(theHall.standing);
            default:
                return fail(NO_NUMBER);
        }
    }

    public int name(int name, int what) {
        if (!isName(name)) {
            return fail(NO_SUCH);
        }
        switch (what) {
            case 0:
                return answer((theHall.standing >> name) & 1);
            case 1:
                return answer(theHall.nameCosts[name]);
            case 2:
                return answer(theHall.tiePlaces[name]);
            default:
                return fail(NO_NUMBER);
        }
    }

    public int sort(int sort, int what) {
        if (!isSort(sort)) {
            return fail(NO_SUCH);
        }
        switch (what) {
            case 0:
                return answer(theHall.in[sort]);
            case 1:
                return answer(theHall.out[sort]);
            case 2:
                return answer(theHall.sortCosts[sort]);
            default:
                return fail(NO_NUMBER);
        }
    }

    public int order(int sort, int place) {
        if (!isSort(sort)) {
            return fail(NO_SUCH);
        }
        if (place < 0 || place >= theHall.names) {
            return fail(NO_NUMBER);
        }
        return answer(theHall.orders[sort * MOST_NAMES + place]);
    }

    public boolean stand(int name, boolean is) {
        if (!isName(name)) {
            return deny(NO_SUCH);
        }
        int bit = 1 << name;
        theHall.standing = is ? theHall.standing | bit : theHall.standing & ~bit;
        return agree();
    }

    public boolean voters(int sort, int in, int out) {
        if (!isSort(sort)) {
            return deny(NO_SUCH);
        }
        if (in < 0 || in > LAST_SMALL || out < 0 || out > LAST_SMALL) {
            return deny(NO_NUMBER);
        }
        theHall.in[sort] = in;
        theHall.out[sort] = out;
        return agree();
    }

    // ---- who WINS

    public int wins() {
        int winner = count.winnerOf(theHall.standing, theHall.in);
        return winner == NONE ? fail(NONE_THERE) : answer(winner);
    }

    public int firsts(int name) {
        if (!isName(name)) {
            return fail(NO_SUCH);
        }
        if (((theHall.standing >> name) & 1) == 0) {
            return fail(CANNOT_BE);
        }
        return answer(count.firstsOf(name, theHall.standing, theHall.in));
    }

    public int beats(int a, int b) {
        if (!isName(a) || !isName(b) || a == b) {
            return fail(NO_SUCH);
        }
        return answer(count.margin(a, b, theHall.in));
    }

    public int left(int clauses) {
        if (clauses < 0 || clauses > theRule.clauses) {
            return fail(NO_NUMBER);
        }
        return answer(count.leftOf(theHall.standing, theHall.in, clauses));
    }

    public int told(int tray, int many) {
        int why = whyNotTold(tray, many);
        if (why != OK) {
            return fail(why);
        }
        int costs = changeSpare(trays[tray], many);
        if (costs == NONE) {
            return fail(CANNOT_BE);
        }
        int winner = count.winnerOf(spareHall.standing, spareHall.in);
        return winner == NONE ? fail(NONE_THERE) : answer(winner);
    }

    public int cost(int tray, int many) {
        int why = whyNotTold(tray, many);
        if (why != OK) {
            return fail(why);
        }
        int costs = changeSpare(trays[tray], many);
        return costs == NONE ? fail(CANNOT_BE) : answer(costs);
    }

    private int whyNotTold(int tray, int many) {
        if (!isTray(tray)) {
            return NO_TRAY;
        }
        if (!trays[tray].there) {
            return MISSING;
        }
        if (many < 0 || many > MOST_TOLD) {
            return NO_NUMBER;
        }
        if (!trays[tray].has(0, many)) {
            return NO_PLACE;
        }
        for (int i = 0; i < many; i++) {
            if (!theHall.isChange(trays[tray].cells[i])) {
                return NO_NUMBER;
            }
        }
        return OK;
    }

    /** Does the CHANGES in the spare HALL, so that the real one stays: what they cost, or NONE. */
    private int changeSpare(Tray row, int many) {
        spareHall.copyFrom(theHall);
        int costs = 0;
        for (int i = 0; i < many && i < row.size; i++) {
            int kind = (int) (row.cells[i] & 3);
            int which = (int) (row.cells[i] >> 2);
            if (!spareHall.change(kind, which)) {
                return NONE;
            }
            costs += spareHall.costOf(kind, which);
        }
        return costs;
    }

    // ---- CHANGES

    public int names(int name, boolean wins, int kinds, boolean cheapest) {
        if (!isName(name)) {
            return fail(NO_SUCH);
        }
        if (!isOfNames(kinds)) {
            return fail(NO_NUMBER);
        }
        search.aim(name, wins, kinds);
        if (!search.byNames(cheapest)) {
            return fail(CANNOT_BE);
        }
        kept.keepNames(search);
        return answer(search.number);
    }

    public int people(int name, boolean wins, int kinds, int most, boolean cheapest) {
        if (!isName(name)) {
            return fail(NO_SUCH);
        }
        if (!isOfVoters(kinds) || most < 0 || most > MOST_MOVED) {
            return fail(NO_NUMBER);
        }
        if (theHall.sorts > MOST_SEARCHED) {
            return fail(TOO_MANY);
        }
        search.aim(name, wins, kinds);
        if (!search.byVoters(most, cheapest)) {
            return fail(CANNOT_BE);
        }
        kept.keepVoters(search, theHall.sorts);
        return answer(search.number);
    }

    public int found(int what) {
        if (what != 0 && what != 1) {
            return fail(NO_NUMBER);
        }
        if (kept.kind == Found.NOTHING || (what == 1 && kept.kind == Found.VOTERS)) {
            return fail(NONE_THERE);
        }
        return answer(what == 0 ? kept.cost : kept.set);
    }

    public int moved(int sort) {
        if (kept.kind != Found.VOTERS || sort < 0 || sort >= kept.sorts) {
            return fail(NONE_THERE);
        }
        return answer(kept.row[sort]);
    }

    public int safe(int kinds) {
        if (!isOfNames(kinds) && !isOfVoters(kinds)) {
            return fail(NO_NUMBER);
        }
        if (isOfVoters(kinds) && theHall.sorts > MOST_SEARCHED) {
            return fail(TOO_MANY);
        }
        int winner = count.winnerOf(theHall.standing, theHall.in);
        if (winner == NONE) {
            return fail(NONE_THERE);
        }
        search.aim(winner, false, kinds);
        if (isOfNames(kinds)) {
            return answer(search.byNames(false) ? search.number - 1 : MOST_NAMES);
        }
        return answer(search.byVoters(MOST_MOVED, false) ? search.number - 1 : MOST_MOVED);
    }

    private static boolean isOfNames(int kinds) {
        return kinds >= MAY_UP && kinds <= (MAY_UP | MAY_DOWN);
    }

    private static boolean isOfVoters(int kinds) {
        return kinds == MAY_IN || kinds == MAY_OUT || kinds == (MAY_IN | MAY_OUT);
    }

    // ---- PARTED, COUSIN, GAME, DOUBT, SELDOM

    public int parted(int set) {
        if ((set & ~theHall.allSorts()) != 0) {
            return fail(NO_SUCH);
        }
        int winner = count.partedWinner(set);
        return winner == NONE ? fail(NONE_THERE) : answer(winner);
    }

    public int parting(int name) {
        if (!isName(name)) {
            return fail(NO_SUCH);
        }
        if (theHall.sorts > MOST_SEARCHED) {
            return fail(TOO_MANY);
        }
        int all = theHall.allSorts();
        for (int set = 0; set <= all; set++) {
            if (count.partedWinner(set) == name) {
                return answer(set);
            }
        }
        return fail(CANNOT_BE);
    }

    public int cousins() {
        int winner = count.winnerOf(theHall.standing, theHall.in);
        if (winner == NONE) {
            return fail(NONE_THERE);
        }
        int set = 0;
        for (int name = 0; name < theHall.names; name++) {
            int bit = 1 << name;
            if ((theHall.standing & bit) == 0) {
                int then = count.winnerOf(theHall.standing | bit, theHall.in);
                set |= then != winner && then != name ? bit : 0;
            }
        }
        return answer(set);
    }

    public int alike(int a, int b) {
        if (!isName(a) || !isName(b) || a == b) {
            return fail(NO_SUCH);
        }
        return answer(count.neighbours(a, b));
    }

    public int game(int name, int mine, int others, int turns) {
        if (!isName(name) || !isSetOfNames(mine) || !isSetOfNames(others) || (mine & others) != 0) {
            return fail(NO_SUCH);
        }
        if (turns < 1 || turns > MOST_TURNS) {
            return fail(NO_NUMBER);
        }
        return answer(rivals.play(name, mine, others, turns) ? 1 : 0);
    }

    public int opening() {
        return rivals.won ? answer(rivals.opening) : fail(NONE_THERE);
    }

    public boolean doubt(int tray, int name) {
        if (!isTray(tray)) {
            return deny(NO_TRAY);
        }
        if (!isName(name)) {
            return deny(NO_SUCH);
        }
        Tray row = trays[tray];
        if (!row.there) {
            return deny(MISSING);
        }
        if (!row.has(0, theHall.sorts)) {
            return deny(NO_PLACE);
        }
        if (!row.within(theHall.sorts, Chances.PARTS)) {
            return deny(NO_NUMBER);
        }
        if (theHall.votersIn() > MOST_DOUBTED) {
            return deny(TOO_MANY);
        }
        chances.doubtful(name, row);
        return agree();
    }

    public boolean seldom(int name, int many) {
        if (!isName(name)) {
            return deny(NO_SUCH);
        }
        int voters = theHall.votersIn();
        if (many < 0 || many > MOST_STRUCK || many > voters) {
            return deny(NO_NUMBER);
        }
        if (voters > LAST_SMALL || theHall.sorts > MOST_STRUCK_SORTS) {
            return deny(TOO_MANY);
        }
        chances.struck(name, many);
        return agree();
    }

    // ---- ACTS, MARKS

    public int acts(int n) {
        if (!tape.open(n, MOST_ACTS_BYTES)) {
            return fail(NO_NUMBER);
        }
        boolean taken = spareActs.readFrom(tape);
        tape.empty();
        if (!taken) {
            return fail(FAULTY);
        }
        theActs.copyFrom(spareActs);
        return answer(theActs.steps);
    }

    public int act() {
        return answer(doing.run());
    }

    public int acted(int what) {
        if (what < 0 || what > 3) {
            return fail(NO_NUMBER);
        }
        if (!doing.ran) {
            return fail(NONE_THERE);
        }
        switch (what) {
            case 0:
                return answer(doing.changes);
            case 1:
                return answer(doing.costs);
            case 2:
                return answer(doing.purse);
            default:
                return answer(doing.cut ? 1 : 0);
        }
    }

    public int mark() {
        if (marks >= MOST_MARKS) {
            return fail(TOO_MANY);
        }
        markedHalls[marks].copyFrom(theHall);
        markedRules[marks].copyFrom(theRule);
        marks++;
        return answer(marks);
    }

    public int back() {
        if (marks <= 0) {
            return fail(NONE_THERE);
        }
        marks--;
        theHall.copyFrom(markedHalls[marks]);
        theRule.copyFrom(markedRules[marks]);
        return answer(marks);
    }

    /** One TRAY; its cells are made once, so that a TRAY made anew costs no room. */
    private static final class Tray {
        static final int BYTES = 0;
        static final int SHORTS = 1;
        static final int INTS = 2;
        static final int LONGS = 3;

        boolean there;
        int sort;
        int size;
        final long[] cells = new long[MOST_CELLS];

        void become(int newSort, int newSize) {
            there = true;
            sort = newSort;
            size = newSize;
            Arrays.fill(cells, 0L);
        }

        boolean has(int place, int many) {
            return place >= 0 && many >= 0 && place <= size - many;
        }

        void put(int place, long v) {
            switch (sort) {
                case BYTES:
                    cells[place] = (byte) v;
                    break;
                case SHORTS:
                    cells[place] = (short) v;
                    break;
                case INTS:
                    cells[place] = (int) v;
                    break;
                default:
                    cells[place] = v;
                    break;
            }
        }

        boolean within(int many, int most) {
            for (int i = 0; i < many && i < size; i++) {
                if (cells[i] < 0 || cells[i] > most) {
                    return false;
                }
            }
            return true;
        }
    }

    /** The tape, the TOKEN that a reader of a text has come to, and the latest FAULT. */
    private static final class Tape {
        private static final int END = 0;
        private static final int WORD = 1;
        private static final int NUMBER = 2;
        private static final int SIGN = 3;
        private static final int BAD = 4;
        private static final int FED = 20;
        private static final int MOST_DIGITS = 3;
        private static final int MOST_LETTERS = 8;

        final byte[] bytes = new byte[MOST_BYTES];
        int size;
        int length;
        int next;
        int token;
        int start;
        int value;
        long word;
        int faultKind = NONE;
        int faultPlace = NONE;

        boolean hasRoom() {
            return size <= MOST_BYTES - FED;
        }

        void add(int four) {
            for (int shift = 24; shift >= 0 && size < MOST_BYTES; shift -= 8) {
                bytes[size] = (byte) (four >> shift);
                size++;
            }
        }

        boolean open(int n, int most) {
            if (n < 0 || n > size || n > most) {
                return false;
            }
            length = n;
            next = 0;
            faultKind = 0;
            faultPlace = NONE;
            return true;
        }

        void empty() {
            size = 0;
        }

        void advance() {
            while (next < length && (bytes[next] == 10 || bytes[next] == 32)) {
                next++;
            }
            start = next;
            word = 0L;
            value = 0;
            if (next >= length) {
                token = END;
            } else if (isLetter(bytes[next])) {
                takeWord();
            } else if (isDigit(bytes[next])) {
                takeNumber();
            } else if (bytes[next] == ';') {
                token = SIGN;
                next++;
            } else {
                token = BAD;
            }
        }

        /** A word of 1 to 8 letters is kept as a number, 5 bits a letter; of a longer one 0 is kept. */
        private void takeWord() {
            token = WORD;
            while (next < length && isLetter(bytes[next])) {
                word = word << 5 | (bytes[next] - 'a' + 1);
                next++;
            }
            if (next - start > MOST_LETTERS) {
                word = 0L;
            }
        }

        private void takeNumber() {
            while (next < length && isDigit(bytes[next])) {
                value = value * 10 + (bytes[next] - '0');
                next++;
            }
            token = next - start > MOST_DIGITS ? BAD : NUMBER;
        }

        private static boolean isLetter(int b) {
            return b >= 'a' && b <= 'z';
        }

        private static boolean isDigit(int b) {
            return b >= '0' && b <= '9';
        }

        boolean atEnd() {
            return token == END;
        }

        boolean atSign() {
            return token == SIGN;
        }

        boolean atNumber() {
            return token == NUMBER;
        }

        boolean atShortWord() {
            return token == WORD && word != 0L;
        }

        boolean at(String key) {
            if (token != WORD || next - start != key.length()) {
                return false;
            }
            for (int i = 0; i < key.length(); i++) {
                if (bytes[start + i] != key.charAt(i)) {
                    return false;
                }
            }
            return true;
        }

        /** A place where no TOKEN begins is that FAULT, whatever was waited for there. */
        boolean refuse(int kind) {
            faultKind = token == BAD ? 1 : kind;
            faultPlace = start;
            return false;
        }

        boolean expectSign() {
            advance();
            return atSign() || refuse(2);
        }

        boolean expectNumber(int least, int most) {
            advance();
            return isNumber(least, most);
        }

        boolean isNumber(int least, int most) {
            if (!atNumber()) {
                return refuse(2);
            }
            return (value >= least && value <= most) || refuse(4);
        }
    }

    /** NAMES and SORTS, with who STANDS and who is IN. */
    private static final class Hall {
        int names;
        int standing;
        final long[] words = new long[MOST_NAMES];
        final int[] nameCosts = new int[MOST_NAMES];
        final int[] ties = new int[MOST_NAMES];
        final int[] tiePlaces = new int[MOST_NAMES];
        boolean tiesTold;
        int sorts;
        final int[] in = new int[MOST_SORTS];
        final int[] out = new int[MOST_SORTS];
        final int[] sortCosts = new int[MOST_SORTS];
        final int[] orders = new int[MOST_SORTS * MOST_NAMES];
        final int[] places = new int[MOST_SORTS * MOST_NAMES];

        void copyFrom(Hall other) {
            names = other.names;
            standing = other.standing;
            tiesTold = other.tiesTold;
            sorts = other.sorts;
            System.arraycopy(other.words, 0, words, 0, MOST_NAMES);
            System.arraycopy(other.nameCosts, 0, nameCosts, 0, MOST_NAMES);
            System.arraycopy(other.ties, 0, ties, 0, MOST_NAMES);
            System.arraycopy(other.tiePlaces, 0, tiePlaces, 0, MOST_NAMES);
            System.arraycopy(other.in, 0, in, 0, MOST_SORTS);
            System.arraycopy(other.out, 0, out, 0, MOST_SORTS);
            System.arraycopy(other.sortCosts, 0, sortCosts, 0, MOST_SORTS);
            System.arraycopy(other.orders, 0, orders, 0, MOST_SORTS * MOST_NAMES);
            System.arraycopy(other.places, 0, places, 0, MOST_SORTS * MOST_NAMES);
        }

        private void clear() {
            names = 0;
            standing = 0;
            tiesTold = false;
            sorts = 0;
            for (int i = 0; i < MOST_NAMES; i++) {
                ties[i] = i;
                tiePlaces[i] = i;
            }
        }

        int allNames() {
            return (1 << names) - 1;
        }

        int allSorts() {
            return (1 << sorts) - 1;
        }

        int votersIn() {
            int sum = 0;
            for (int s = 0; s < sorts; s++) {
                sum += in[s];
            }
            return sum;
        }

        int find(long word) {
            for (int i = 0; i < names; i++) {
                if (words[i] == word) {
                    return i;
                }
            }
            return NONE;
        }

        boolean isChange(long told) {
            long which = told >> 2;
            return which >= 0 && which < ((told & 3) < IN ? names : sorts);
        }

        private boolean isThere(int kind, int which) {
            return which >= 0 && which < (kind < IN ? names : sorts);
        }

        int costOf(int kind, int which) {
            if (!isThere(kind, which)) {
                return 0;
            }
            return kind < IN ? nameCosts[which] : sortCosts[which];
        }

        /** Does a CHANGE if it can be, and tells whether it could. */
        boolean change(int kind, int which) {
            if (!isThere(kind, which)) {
                return false;
            }
            if (kind < IN) {
                return turn(1 << which, kind == UP);
            }
            int by = kind == IN ? 1 : -1;
            if ((kind == IN ? out[which] : in[which]) == 0) {
                return false;
            }
            in[which] += by;
            out[which] -= by;
            return true;
        }

        private boolean turn(int bit, boolean up) {
            if (((standing & bit) == 0) != up) {
                return false;
            }
            standing ^= bit;
            return true;
        }

        boolean readFrom(Tape tape) {
            clear();
            for (int part = 0; part <= MOST_BYTES; part++) {
                tape.advance();
                if (tape.atEnd()) {
                    return true;
                }
                boolean read;
                if (tape.at("name")) {
                    read = readName(tape);
                } else if (tape.at("sort")) {
                    read = readSort(tape);
                } else {
                    read = tape.at("ties") ? readTies(tape) : tape.refuse(2);
                }
                if (!read) {
                    return false;
                }
            }
            return tape.refuse(2);
        }

        private boolean readName(Tape tape) {
            if (sorts > 0 || tiesTold) {
                return tape.refuse(7);
            }
            tape.advance();
            if (!isNameWord(tape)) {
                return tape.refuse(2);
            }
            if (find(tape.word) != NONE) {
                return tape.refuse(3);
            }
            if (names >= MOST_NAMES) {
                return tape.refuse(6);
            }
            int name = names;
            names++;
            words[name] = tape.word;
            return readNameOptions(tape, name);
        }

        private boolean readNameOptions(Tape tape, int name) {
            tape.advance();
            if (tape.at("off")) {
                tape.advance();
            } else {
                standing |= 1 << name;
            }
            nameCosts[name] = 1;
            if (tape.at("cost")) {
                if (!tape.expectNumber(0, LAST_SMALL)) {
                    return false;
                }
                nameCosts[name] = tape.value;
                tape.advance();
            }
            return tape.atSign() || tape.refuse(2);
        }

        private static boolean isNameWord(Tape tape) {
            boolean key = tape.at("name") || tape.at("off") || tape.at("cost") || tape.at("sort")
                    || tape.at("out") || tape.at("order") || tape.at("ties");
            return tape.atShortWord() && !key;
        }

        private boolean readSort(Tape tape) {
            if (sorts >= MOST_SORTS) {
                return tape.refuse(6);
            }
            int sort = sorts;
            if (!tape.expectNumber(0, LAST_SMALL)) {
                return false;
            }
            in[sort] = tape.value;
            if (!readSortOptions(tape, sort)) {
                return false;
            }
            if (!readRow(tape, orders, places, sort * MOST_NAMES)) {
                return false;
            }
            sorts++;
            return true;
        }

        /** Reads up to the WORD order; each option may stand once, so three TOKENS decide. */
        private boolean readSortOptions(Tape tape, int sort) {
            boolean outTold = false;
            boolean costTold = false;
            out[sort] = 0;
            sortCosts[sort] = 1;
            for (int option = 0; option < 3; option++) {
                tape.advance();
                if (tape.at("order")) {
                    return true;
                }
                boolean isOut = tape.at("out");
                if (!isOut && !tape.at("cost")) {
                    return tape.refuse(2);
                }
                if (isOut ? outTold : costTold) {
                    return tape.refuse(5);
                }
                if (!tape.expectNumber(0, LAST_SMALL)) {
                    return false;
                }
                outTold |= isOut;
                costTold |= !isOut;
                out[sort] = isOut ? tape.value : out[sort];
                sortCosts[sort] = isOut ? sortCosts[sort] : tape.value;
            }
            return tape.refuse(2);
        }

        private boolean readTies(Tape tape) {
            if (tiesTold) {
                return tape.refuse(5);
            }
            tiesTold = true;
            return readRow(tape, ties, tiePlaces, 0);
        }

        /** Reads all NAMES, each once, and the SIGN behind them. */
        private boolean readRow(Tape tape, int[] row, int[] rowPlaces, int from) {
            int seen = 0;
            for (int place = 0; place <= MOST_NAMES; place++) {
                tape.advance();
                if (tape.atSign() && place > 0) {
                    return place == names || tape.refuse(8);
                }
                if (!isNameWord(tape)) {
                    return tape.refuse(2);
                }
                int name = find(tape.word);
                if (name == NONE) {
                    return tape.refuse(3);
                }
                if (place >= names || (seen >> name & 1) != 0) {
                    return tape.refuse(5);
                }
                seen |= 1 << name;
                row[from + place] = name;
                rowPlaces[from + name] = place;
            }
            return tape.refuse(2);
        }
    }

    /** The CLAUSES by which is counted. first and near are held as points of ones. */
    private static final class Rule {
        static final int POINTS = 0;
        static final int RUNS = 1;
        static final int PAIRS = 2;
        static final int BAR = 3;

        int clauses = 1;
        final int[] kinds = new int[MOST_CLAUSES];
        final int[] numbers = new int[MOST_CLAUSES];
        final int[] points = new int[MOST_CLAUSES * MOST_NAMES];

        Rule() {
            numbers[0] = 1;
            points[0] = 1;
        }

        void copyFrom(Rule other) {
            clauses = other.clauses;
            System.arraycopy(other.kinds, 0, kinds, 0, MOST_CLAUSES);
            System.arraycopy(other.numbers, 0, numbers, 0, MOST_CLAUSES);
            System.arraycopy(other.points, 0, points, 0, MOST_CLAUSES * MOST_NAMES);
        }

        boolean readFrom(Tape tape) {
            clauses = 0;
            for (int clause = 0; clause <= MOST_CLAUSES; clause++) {
                tape.advance();
                if (tape.atEnd()) {
                    return true;
                }
                if (!isKey(tape)) {
                    return tape.refuse(2);
                }
                if (clause >= MOST_CLAUSES) {
                    return tape.refuse(6);
                }
                if (!readClause(tape, clause)) {
                    return false;
                }
                clauses++;
            }
            return tape.refuse(2);
        }

        private static boolean isKey(Tape tape) {
            return tape.at("first") || tape.at("points") || tape.at("runs") || tape.at("pairs")
                    || tape.at("near") || tape.at("bar");
        }

        private boolean readClause(Tape tape, int clause) {
            kinds[clause] = POINTS;
            if (tape.at("points")) {
                return readPoints(tape, clause);
            }
            if (tape.at("first")) {
                putOnes(clause, 1);
            } else if (tape.at("runs")) {
                kinds[clause] = RUNS;
            } else if (tape.at("pairs")) {
                kinds[clause] = PAIRS;
            } else if (tape.at("near")) {
                if (!tape.expectNumber(1, MOST_NAMES)) {
                    return false;
                }
                putOnes(clause, tape.value);
            } else {
                kinds[clause] = BAR;
                if (!tape.expectNumber(0, LAST_SMALL)) {
                    return false;
                }
                numbers[clause] = tape.value;
            }
            return tape.expectSign();
        }

        private void putOnes(int clause, int many) {
            numbers[clause] = many;
            for (int i = 0; i < many && i < MOST_NAMES; i++) {
                points[clause * MOST_NAMES + i] = 1;
            }
        }

        private boolean readPoints(Tape tape, int clause) {
            for (int i = 0; i <= MOST_NAMES; i++) {
                tape.advance();
                if (tape.atSign() && i > 0) {
                    numbers[clause] = i;
                    return true;
                }
                if (!tape.isNumber(0, LAST_SMALL)) {
                    return false;
                }
                if (i >= MOST_NAMES) {
                    return tape.refuse(6);
                }
                points[clause * MOST_NAMES + i] = tape.value;
            }
            return tape.refuse(2);
        }
    }

    /** Counts votes by the RULE, for any set of NAMES that STAND and any numbers of voters. */
    private static final class Count {
        private final Hall hall;
        private final Rule rule;
        private final int[] tally = new int[MOST_NAMES];
        private final int[] here = new int[MOST_SORTS];
        private final int[] there = new int[MOST_SORTS];

        Count(Hall hall, Rule rule) {
            this.hall = hall;
            this.rule = rule;
        }

        int winnerOf(int standing, int[] voters) {
            int left = leftOf(standing, voters, rule.clauses);
            for (int place = 0; place < hall.names; place++) {
                if ((left >> hall.ties[place] & 1) != 0) {
                    return hall.ties[place];
                }
            }
            return NONE;
        }

        /** No CLAUSE takes away the last one, so with one LEFT the others need not be asked. */
        int leftOf(int standing, int[] voters, int clauses) {
            int left = standing;
            for (int c = 0; c < clauses && c < MOST_CLAUSES && Integer.bitCount(left) > 1; c++) {
                switch (rule.kinds[c]) {
                    case Rule.POINTS:
                        left = mostPoints(left, voters, c);
                        break;
                    case Rule.RUNS:
                        left = runOff(left, voters);
                        break;
                    case Rule.PAIRS:
                        left = beatsEach(left, voters);
                        break;
                    default:
                        left = aboveBar(left, voters, rule.numbers[c]);
                        break;
                }
            }
            return left;
        }

        private int mostPoints(int left, int[] voters, int clause) {
            Arrays.fill(tally, 0);
            int from = clause * MOST_NAMES;
            int many = rule.numbers[clause];
            for (int s = 0; s < hall.sorts; s++) {
                int given = 0;
                for (int i = 0; i < hall.names && given < many && voters[s] > 0; i++) {
                    int name = hall.orders[s * MOST_NAMES + i];
                    if ((left >> name & 1) != 0) {
                        tally[name] += voters[s] * rule.points[from + given];
                        given++;
                    }
                }
            }
            int most = 0;
            for (int name = 0; name < hall.names; name++) {
                most = Math.max(most, tally[name]);
            }
            return withAtLeast(left, most);
        }

        private int withAtLeast(int left, int least) {
            int set = 0;
            for (int name = 0; name < hall.names; name++) {
                set |= tally[name] >= least ? left & 1 << name : 0;
            }
            return set;
        }

        /** Counts firsts among those LEFT, and tells how many voters there are. */
        private int tallyFirsts(int left, int[] voters) {
            int sum = 0;
            for (int name = 0; name < MOST_NAMES; name++) {
                tally[name] = 0;
            }
            for (int s = 0; s < hall.sorts; s++) {
                for (int i = 0; i < hall.names && voters[s] > 0; i++) {
                    int name = hall.orders[s * MOST_NAMES + i];
                    if ((left >> name & 1) != 0) {
                        tally[name] += voters[s];
                        break;
                    }
                }
                sum += voters[s];
            }
            return sum;
        }

        private int runOff(int left, int[] voters) {
            int still = left;
            for (int round = 0; round < MOST_NAMES && Integer.bitCount(still) > 1; round++) {
                int sum = tallyFirsts(still, voters);
                int last = NONE;
                for (int place = hall.names - 1; place >= 0; place--) {
                    int name = hall.ties[place];
                    if ((still >> name & 1) == 0) {
                        continue;
                    }
                    if (tally[name] * 2 > sum) {
                        return 1 << name;
                    }
                    last = last == NONE || tally[name] < tally[last] ? name : last;
                }
                still &= last == NONE ? 0 : ~(1 << last);
            }
            return still;
        }

        private int beatsEach(int left, int[] voters) {
            for (int a = 0; a < hall.names; a++) {
                boolean each = (left >> a & 1) != 0;
                for (int b = 0; b < hall.names && each; b++) {
                    if (b != a && (left >> b & 1) != 0) {
                        each = margin(a, b, voters) > 0;
                    }
                }
                if (each) {
                    return 1 << a;
                }
            }
            return left;
        }

        private int aboveBar(int left, int[] voters, int bar) {
            int sum = tallyFirsts(left, voters);
            int set = 0;
            for (int name = 0; name < hall.names; name++) {
                set |= tally[name] * 100 >= bar * sum ? left & 1 << name : 0;
            }
            return set == 0 ? left : set;
        }

        int firstsOf(int name, int standing, int[] voters) {
            tallyFirsts(standing, voters);
            return name >= 0 && name < MOST_NAMES ? tally[name] : 0;
        }

        int margin(int a, int b, int[] voters) {
            int more = 0;
            for (int s = 0; s < hall.sorts; s++) {
                int from = s * MOST_NAMES;
                more += hall.places[from + a] < hall.places[from + b] ? voters[s] : -voters[s];
            }
            return more;
        }

        int partedWinner(int set) {
            for (int s = 0; s < hall.sorts; s++) {
                boolean first = (set >> s & 1) != 0;
                here[s] = first ? hall.in[s] : 0;
                there[s] = first ? 0 : hall.in[s];
            }
            return winnerOf(hallWinner(here) | hallWinner(there), hall.in);
        }

        /** The one who wins a part of the HALL, as a set; an empty part sends nobody. */
        private int hallWinner(int[] voters) {
            int sum = 0;
            for (int s = 0; s < hall.sorts; s++) {
                sum += voters[s];
            }
            int winner = sum == 0 ? NONE : winnerOf(hall.standing, voters);
            return winner == NONE ? 0 : 1 << winner;
        }

        int neighbours(int a, int b) {
            int asked = hall.standing & ~(1 << a) & ~(1 << b);
            int sum = 0;
            for (int s = 0; s < hall.sorts; s++) {
                int from = s * MOST_NAMES;
                int low = Math.min(hall.places[from + a], hall.places[from + b]);
                int high = Math.max(hall.places[from + a], hall.places[from + b]);
                boolean next = true;
                for (int place = low + 1; place < high; place++) {
                    next &= (asked >> hall.orders[from + place] & 1) == 0;
                }
                sum += next ? hall.in[s] : 0;
            }
            return sum;
        }
    }

    /** Looks for the FEWEST or CHEAPEST CHANGES by which an aim is reached. */
    private static final class Search {
        private final Hall hall;
        private final Count count;
        private int aimed;
        private boolean aimsToWin;
        private int kinds;
        private int size;
        private final int[] trial = new int[MOST_SEARCHED];
        private final int[] voters = new int[MOST_SORTS];
        int number;
        int cost;
        int set;
        final int[] row = new int[MOST_SEARCHED];

        Search(Hall hall, Count count) {
            this.hall = hall;
            this.count = count;
        }

        void aim(int name, boolean wins, int allowed) {
            aimed = name;
            aimsToWin = wins;
            kinds = allowed;
            number = NONE;
        }

        /** The sets come by their number, so of equals the first one is kept. */
        boolean byNames(boolean cheapest) {
            int all = hall.allNames();
            int may = ((kinds & MAY_UP) != 0 ? all & ~hall.standing : 0)
                    | ((kinds & MAY_DOWN) != 0 ? hall.standing : 0);
            for (int changed = 0; changed <= all; changed++) {
                int many = Integer.bitCount(changed);
                int costs = costOfNames(changed);
                if ((changed & ~may) != 0 || !isBetter(many, costs, cheapest)) {
                    continue;
                }
                if ((count.winnerOf(hall.standing ^ changed, hall.in) == aimed) == aimsToWin) {
                    number = many;
                    cost = costs;
                    set = changed;
                }
            }
            return number != NONE;
        }

        private int costOfNames(int changed) {
            int sum = 0;
            for (int name = 0; name < hall.names; name++) {
                sum += (changed >> name & 1) != 0 ? hall.nameCosts[name] : 0;
            }
            return sum;
        }

        private boolean isBetter(int many, int costs, boolean cheapest) {
            if (number == NONE) {
                return true;
            }
            if (cheapest) {
                return costs < cost || (costs == cost && many < number);
            }
            return many < number || (many == number && costs < cost);
        }

        /** Rows come by their number of CHANGES, then in their own order: only a cheaper one is better. */
        boolean byVoters(int most, boolean cheapest) {
            if (aimsToWin && (hall.standing >> aimed & 1) == 0) {
                return false;
            }
            Arrays.fill(trial, 0);
            System.arraycopy(hall.in, 0, voters, 0, MOST_SORTS);
            for (int many = 0; many <= most && (cheapest || number == NONE); many++) {
                size = many;
                spread(this, 0, many, 0);
            }
            return number != NONE;
        }

        private static void spread(Search s, int sort, int rest, int costs) {
            if (s.number != NONE && costs >= s.cost) {
                return;
            }
            if (rest == 0) {
                if ((s.count.winnerOf(s.hall.standing, s.voters) == s.aimed) == s.aimsToWin) {
                    s.keepTrial(costs);
                }
                return;
            }
            if (sort >= s.hall.sorts || sort >= MOST_SEARCHED) {
                return;
            }
            spread(s, sort + 1, rest, costs);
            for (int many = 1; many <= rest; many++) {
                int then = costs + many * s.hall.sortCosts[sort];
                if ((s.kinds & MAY_IN) != 0 && many <= s.hall.out[sort]) {
                    s.tryMove(sort, many);
                    spread(s, sort + 1, rest - many, then);
                }
                if ((s.kinds & MAY_OUT) != 0 && many <= s.hall.in[sort]) {
                    s.tryMove(sort, -many);
                    spread(s, sort + 1, rest - many, then);
                }
            }
            s.tryMove(sort, 0);
        }

        private void tryMove(int sort, int by) {
            trial[sort] = by;
            voters[sort] = hall.in[sort] + by;
        }

        private void keepTrial(int costs) {
            number = size;
            cost = costs;
            System.arraycopy(trial, 0, row, 0, MOST_SEARCHED);
        }
    }

    /** What names() or people() found latest; safe() searches too, but leaves this as it is. */
    private static final class Found {
        static final int NOTHING = 0;
        static final int NAMES = 1;
        static final int VOTERS = 2;

        int kind = NOTHING;
        int cost;
        int set;
        int sorts;
        final int[] row = new int[MOST_SEARCHED];

        void keepNames(Search search) {
            kind = NAMES;
            cost = search.cost;
            set = search.set;
        }

        void keepVoters(Search search, int many) {
            kind = VOTERS;
            cost = search.cost;
            sorts = Math.min(many, MOST_SEARCHED);
            System.arraycopy(search.row, 0, row, 0, MOST_SEARCHED);
        }
    }

    /** The GAME of two who change by turns, worked out from its end for each set that may STAND. */
    private static final class Rivals {
        private static final int SETS = 1 << MOST_NAMES;

        private final Hall hall;
        private final Count count;
        private final boolean[] good = new boolean[SETS];
        private final boolean[] before = new boolean[SETS];
        boolean won;
        int opening = NONE;

        Rivals(Hall hall, Count count) {
            this.hall = hall;
            this.count = count;
        }

        boolean play(int name, int mine, int others, int turns) {
            int fixed = ~(mine | others);
            int all = hall.allNames();
            for (int set = 0; set <= all && set < SETS; set++) {
                boolean reached = ((set ^ hall.standing) & fixed) == 0;
                good[set] = reached && count.winnerOf(set, hall.in) == name;
            }
            stepBack(others, false);
            for (int turn = 1; turn < turns; turn++) {
                stepBack(mine, true);
                stepBack(others, false);
            }
            return open(mine);
        }

        /** One turn earlier: good for the one who moves, if any move (or none) is; else if all are. */
        private void stepBack(int movable, boolean any) {
            int all = hall.allNames();
            for (int set = 0; set <= all && set < SETS; set++) {
                boolean is = good[set];
                for (int name = 0; name < hall.names; name++) {
                    if ((movable >> name & 1) != 0) {
                        boolean then = good[set ^ 1 << name];
                        is = any ? is || then : is && then;
                    }
                }
                before[set] = is;
            }
            System.arraycopy(before, 0, good, 0, SETS);
        }

        private boolean open(int mine) {
            if (good[hall.standing]) {
                won = true;
                opening = NONE;
                return true;
            }
            for (int name = 0; name < hall.names; name++) {
                if ((mine >> name & 1) != 0 && good[hall.standing ^ 1 << name]) {
                    won = true;
                    opening = name;
                    return true;
                }
            }
            return false;
        }
    }

    /** DOUBT and SELDOM, and the FRACTION told latest. */
    private static final class Chances {
        static final int PARTS = 16;
        private static final int MOST_DIVISIONS = 200;

        private final Hall hall;
        private final Count count;
        private final int[] voters = new int[MOST_SORTS];
        private int asked;
        private long sum;
        long top = 0L;
        long bottom = 1L;

        Chances(Hall hall, Count count) {
            this.hall = hall;
            this.count = count;
        }

        void doubtful(int name, Tray shares) {
            asked = name;
            sum = 0L;
            letVote(this, shares, 0, 1L);
            tell(sum, power(PARTS, hall.votersIn()));
        }

        private static void letVote(Chances c, Tray shares, int sort, long weight) {
            if (weight == 0L) {
                return;
            }
            if (sort >= c.hall.sorts || sort >= MOST_SORTS) {
                c.sum += c.count.winnerOf(c.hall.standing, c.voters) == c.asked ? weight : 0L;
                return;
            }
            int in = c.hall.in[sort];
            long share = shares.cells[sort];
            for (int k = 0; k <= in; k++) {
                c.voters[sort] = k;
                long ways = choose(in, k) * power(share, k) * power(PARTS - share, in - k);
                letVote(c, shares, sort + 1, weight * ways);
            }
        }

        void struck(int name, int many) {
            asked = name;
            sum = 0L;
            System.arraycopy(hall.in, 0, voters, 0, MOST_SORTS);
            strike(this, 0, many, 1L);
            tell(sum, choose(hall.votersIn(), many));
        }

        private static void strike(Chances c, int sort, int rest, long weight) {
            if (rest == 0) {
                c.sum += c.count.winnerOf(c.hall.standing, c.voters) == c.asked ? weight : 0L;
                return;
            }
            if (sort >= c.hall.sorts || sort >= MOST_SORTS) {
                return;
            }
            int in = c.hall.in[sort];
            for (int k = 0; k <= in && k <= rest; k++) {
                c.voters[sort] = in - k;
                strike(c, sort + 1, rest - k, weight * choose(in, k));
            }
            c.voters[sort] = in;
        }

        private static long choose(int n, int k) {
            long ways = 1L;
            for (int i = 0; i < k; i++) {
                ways = ways * (n - i) / (i + 1);
            }
            return ways;
        }

        private static long power(long base, int exponent) {
            long product = 1L;
            for (int i = 0; i < exponent; i++) {
                product *= base;
            }
            return product;
        }

        private void tell(long over, long under) {
            long a = under;
            long b = over;
            for (int i = 0; i < MOST_DIVISIONS && b != 0L; i++) {
                long rest = a % b;
                a = b;
                b = rest;
            }
            if (a > 0L) {
                top = over / a;
                bottom = under / a;
            }
        }
    }

    /** The STEPS of a text with their ends, each beginning knowing its end and each end its beginning. */
    private static final class Acts {
        static final int SPEND = 4;
        static final int LOOP = 5;
        static final int WHEN = 6;
        static final int UNTIL = 7;
        static final int END = 8;
        static final int MOST_STEPS = 40;
        static final int MOST_NODES = 2 * MOST_STEPS;
        private static final int MOST_OPEN = 3;
        private static final int LAST_SPENT = 999;
        private static final int LAST_LOOP = 9;

        int nodes;
        int steps;
        boolean priced;
        final int[] kinds = new int[MOST_NODES];
        final int[] firstNumbers = new int[MOST_NODES];
        final int[] secondNumbers = new int[MOST_NODES];
        final long[] words = new long[MOST_NODES];
        final boolean[] negated = new boolean[MOST_NODES];
        final int[] mates = new int[MOST_NODES];
        private final int[] begun = new int[MOST_OPEN];
        private int open;

        void copyFrom(Acts other) {
            nodes = other.nodes;
            steps = other.steps;
            priced = other.priced;
            System.arraycopy(other.kinds, 0, kinds, 0, MOST_NODES);
            System.arraycopy(other.firstNumbers, 0, firstNumbers, 0, MOST_NODES);
            System.arraycopy(other.secondNumbers, 0, secondNumbers, 0, MOST_NODES);
            System.arraycopy(other.words, 0, words, 0, MOST_NODES);
            System.arraycopy(other.negated, 0, negated, 0, MOST_NODES);
            System.arraycopy(other.mates, 0, mates, 0, MOST_NODES);
        }

        boolean readFrom(Tape tape) {
            nodes = 0;
            steps = 0;
            priced = false;
            open = 0;
            for (int node = 0; node <= MOST_NODES; node++) {
                tape.advance();
                if (tape.atEnd()) {
                    return open == 0 || tape.refuse(2);
                }
                if (!(tape.at("end") ? readEnd(tape) : readStep(tape))) {
                    return false;
                }
            }
            return tape.refuse(2);
        }

        private boolean readEnd(Tape tape) {
            if (open <= 0 || nodes >= MOST_NODES) {
                return tape.refuse(2);
            }
            open--;
            kinds[nodes] = END;
            mates[nodes] = begun[open];
            mates[begun[open]] = nodes;
            nodes++;
            return tape.expectSign();
        }

        private boolean readStep(Tape tape) {
            int kind = kindAt(tape);
            if (kind == NONE) {
                return tape.refuse(2);
            }
            boolean begins = kind >= LOOP;
            if (begins && open >= MOST_OPEN) {
                return tape.refuse(5);
            }
            if (steps >= MOST_STEPS || nodes >= MOST_NODES) {
                return tape.refuse(6);
            }
            int node = nodes;
            nodes++;
            steps++;
            kinds[node] = kind;
            if (begins) {
                begun[open] = node;
                open++;
            }
            return readArguments(tape, kind, node) && tape.expectSign();
        }

        private static int kindAt(Tape tape) {
            if (tape.at("up")) {
                return UP;
            }
            if (tape.at("down")) {
                return DOWN;
            }
            if (tape.at("in")) {
                return IN;
            }
            if (tape.at("out")) {
                return OUT;
            }
            if (tape.at("spend")) {
                return SPEND;
            }
            if (tape.at("loop")) {
                return LOOP;
            }
            if (tape.at("when")) {
                return WHEN;
            }
            return tape.at("until") ? UNTIL : NONE;
        }

        private boolean readArguments(Tape tape, int kind, int node) {
            switch (kind) {
                case IN:
                case OUT:
                    return readMove(tape, node);
                case SPEND:
                    priced = true;
                    return readNumber(tape, node, 0, LAST_SPENT);
                case LOOP:
                    return readNumber(tape, node, 1, LAST_LOOP);
                default:
                    return readWho(tape, node, kind >= WHEN);
            }
        }

        private boolean readNumber(Tape tape, int node, int least, int most) {
            tape.advance();
            if (!tape.isNumber(least, most)) {
                return false;
            }
            firstNumbers[node] = tape.value;
            return true;
        }

        private boolean readMove(Tape tape, int node) {
            tape.advance();
            if (!tape.isNumber(0, MOST_SORTS - 1)) {
                return false;
            }
            firstNumbers[node] = tape.value;
            tape.advance();
            if (!tape.isNumber(0, LAST_SMALL)) {
                return false;
            }
            secondNumbers[node] = tape.value;
            return true;
        }

        private boolean readWho(Tape tape, int node, boolean mayNegate) {
            tape.advance();
            negated[node] = mayNegate && tape.at("not");
            if (negated[node]) {
                tape.advance();
            }
            boolean key = tape.at("not") || tape.at("end") || kindAt(tape) != NONE;
            if (key || !tape.atShortWord()) {
                return tape.refuse(2);
            }
            words[node] = tape.word;
            return true;
        }
    }

    /** Does the ACTS in the HALL, and keeps what came of it. */
    private static final class Doing {
        private static final int MOST_DONE = 200;
        private static final int MOST_ASKED = 20;
        private static final int MOST_MOVES = 1000000;

        private final Acts acts;
        private final Hall hall;
        private final Count count;
        private final int[] rounds = new int[Acts.MOST_NODES];
        boolean ran;
        int changes;
        int costs;
        int purse;
        boolean cut;

        Doing(Acts acts, Hall hall, Count count) {
            this.acts = acts;
            this.hall = hall;
            this.count = count;
        }

        /** Ends are gone through even behind the last STEP that may be done: no STEP may be left there. */
        int run() {
            ran = true;
            changes = 0;
            costs = 0;
            purse = 0;
            cut = false;
            int done = 0;
            int at = 0;
            for (int move = 0; move < MOST_MOVES && at >= 0 && at < acts.nodes; move++) {
                if (acts.kinds[at] != Acts.END) {
                    if (done >= MOST_DONE) {
                        cut = true;
                        break;
                    }
                    done++;
                }
                at = acts.kinds[at] == Acts.END ? behindEnd(at, acts.mates[at]) : behindStep(at);
            }
            return done;
        }

        private int behindStep(int at) {
            switch (acts.kinds[at]) {
                case UP:
                case DOWN:
                    change(acts.kinds[at], hall.find(acts.words[at]), 1);
                    return at + 1;
                case IN:
                case OUT:
                    change(acts.kinds[at], acts.firstNumbers[at], acts.secondNumbers[at]);
                    return at + 1;
                case Acts.SPEND:
                    purse += acts.firstNumbers[at];
                    return at + 1;
                case Acts.LOOP:
                    rounds[at] = 1;
                    return at + 1;
                case Acts.WHEN:
                    return isSo(at) ? at + 1 : acts.mates[at] + 1;
                default:
                    rounds[at] = 1;
                    return isSo(at) ? acts.mates[at] + 1 : at + 1;
            }
        }

        private int behindEnd(int end, int begin) {
            boolean again;
            switch (acts.kinds[begin]) {
                case Acts.LOOP:
                    again = rounds[begin] < acts.firstNumbers[begin];
                    break;
                case Acts.UNTIL:
                    again = rounds[begin] < MOST_ASKED && !isSo(begin);
                    break;
                default:
                    again = false;
                    break;
            }
            rounds[begin]++;
            return again ? begin + 1 : end + 1;
        }

        private boolean isSo(int at) {
            int name = hall.find(acts.words[at]);
            boolean is = name != NONE && count.winnerOf(hall.standing, hall.in) == name;
            return is != acts.negated[at];
        }

        private void change(int kind, int which, int many) {
            int price = hall.costOf(kind, which);
            for (int i = 0; i < many; i++) {
                if ((acts.priced && price > purse) || !hall.change(kind, which)) {
                    return;
                }
                purse -= acts.priced ? price : 0;
                costs += price;
                changes++;
            }
        }
    }
}
