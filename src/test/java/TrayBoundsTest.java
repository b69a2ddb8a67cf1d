import java.math.BigInteger;

/** Promises 1 to 9 sentence by sentence at their bounds: a new object, STATUS, the FRACTION, TRAYS, the tape. */
public final class TrayBoundsTest {
    private static final int[] NO_TRAYS = {-1, 4, 5, Integer.MIN_VALUE, Integer.MAX_VALUE};
    private static final int MIN = Integer.MIN_VALUE;
    private static final int MAX = Integer.MAX_VALUE;

    public static void main(String[] args) {
        traysAtFirst();
        numbersAreCut();
        newObject();
        latestStatus();
        callsWithoutStatus();
        topAndBottom();
        trayLength();
        trayStatuses();
        trayIsAllZero();
        writeStatuses();
        readTellsNoneFromMinusOne();
        pourAsTheyWere();
        pourOfNone();
        pourInThisOrder();
        feedHighestFirst();
        feedFull();
        Check.end("TrayBoundsTest");
    }

    private static void traysAtFirst() {
        Doc.says("TRAYS, 0 to 3, are MISSING at first,");
        DoorList d = new DoorList();
        for (int tray = 0; tray < 4; tray++) {
            Check.refused("read of tray " + tray, d, d.read(tray, 0), 3);
            Check.refused("write to tray " + tray, d, d.write(tray, 0, 1), 3);
            Check.refused("pour from tray " + tray, d, d.pour(tray, 0, tray, 0, 0), 3);
        }
        for (int tray : NO_TRAYS) {
            Check.refused("read of tray " + tray, d, d.read(tray, 0), 1);
            Check.refused("write to tray " + tray, d, d.write(tray, 0, 1), 1);
            Check.refused("tray " + tray, d, d.tray(tray, 0, 1), 1);
        }
        for (int tray = 0; tray < 4; tray++) {
            Check.given("tray " + tray, d, d.tray(tray, 0, 1));
            Check.given("is there", d, d.read(tray, 0), 0);
            for (int other = tray + 1; other < 4; other++) {
                Check.refused("others are missing still", d, d.read(other, 0), 3);
            }
        }
    }

    private static BigInteger cut(long v, int bits) {
        BigInteger round = BigInteger.ONE.shiftLeft(bits);
        BigInteger rest = BigInteger.valueOf(v).mod(round);
        return rest.testBit(bits - 1) ? rest.subtract(round) : rest;
    }

    /** Around each power of two, where a row of so many bits wraps around or must not. */
    private static void numbersAreCut() {
        Doc.says("or rows of numbers of 8 bits (sort 0), 16 (1), 32 (2) or 64 (3), with sign; what is written is cut to "
                + "these.");
        for (int power = 0; power < 64; power++) {
            DoorList d = new DoorList();
            for (int sort = 0; sort < 4; sort++) {
                d.tray(sort, sort, 6);
                for (int i = 0; i < 6; i++) {
                    long v = (i < 3 ? 1L << power : -(1L << power)) + i % 3 - 1;
                    Check.given("write " + v, d, d.write(sort, i, v));
                    Check.given(v + " in sort " + sort, d, d.read(sort, i), cut(v, 8 << sort).longValueExact());
                }
            }
        }
        DoorList d = new DoorList();
        d.tray(0, 0, 1);
        d.tray(1, 1, 1);
        d.tray(2, 2, 1);
        d.tray(3, 3, 1);
        long[][] rows = {{0, 127, 127}, {0, 128, -128}, {0, -129, 127}, {0, 256, 0}, {1, 32767, 32767},
            {1, 32768, -32768}, {1, -32769, 32767}, {1, 65536, 0}, {2, 2147483647L, 2147483647L},
            {2, 2147483648L, -2147483648L}, {2, -2147483649L, 2147483647L}, {2, 4294967296L, 0},
            {3, Long.MAX_VALUE, Long.MAX_VALUE}, {3, Long.MIN_VALUE, Long.MIN_VALUE}};
        for (long[] row : rows) {
            d.write((int) row[0], 0, row[1]);
            Check.given(row[1] + " in sort " + row[0], d, d.read((int) row[0], 0), row[2]);
        }
    }

    private static void newObject() {
        Doc.says("TRAYS are MISSING, no HALL (no NAMES, SORTS), the RULE first, no ACTS, no MARKS, an empty tape; "
                + "STATUS 0, the FRACTION 0 by 1.");
        DoorList d = new DoorList();
        Check.due("status", d.status(), 0);
        Check.due("top", d.top(), 0);
        Check.due("bottom", d.bottom(), 1);
        Check.due("an empty tape", d.feed(1, 2, 3, 4, 5), 20);
        Check.refused("a tray", d, d.read(2, 0), 3);
        Check.given("names", d, d.many(0), 0);
        Check.given("sorts", d, d.many(1), 0);
        Check.given("voters", d, d.many(2), 0);
        Check.given("one clause", d, d.many(3), 1);
        Check.given("who stands", d, d.many(4), 0);
        Check.refused("a name", d, d.name(0, 0), 2);
        Check.refused("a sort", d, d.sort(0, 0), 2);
        Check.refused("no mark", d, d.back(), 8);
        Check.given("no acts", d, d.act(), 0);
        // 3 put a first, 2 and 2 the others, who have more points and runs
        DoorList e = Check.open("name a; name b; name c; sort 3 order a b c; sort 2 order b c a; sort 2 order c b a;");
        Check.given("the rule is first", e, e.wins(), 0);
        Check.given("of firsts alone", e, e.left(1), 1);
    }

    private static void latestStatus() {
        Doc.says("The STATUS of the latest call that has one.");
        DoorList d = new DoorList();
        d.many(-1);
        Check.due("5", d.status(), 5);
        d.wins();
        Check.due("8", d.status(), 8);
        d.tray(0, 0, -1);
        Check.due("6", d.status(), 6);
        d.tray(0, 0, 1);
        Check.due("0", d.status(), 0);
        d.name(0, 0);
        Check.due("2", d.status(), 2);
        Check.due("2 again", d.status(), 2);
    }

    private static void callsWithoutStatus() {
        Doc.says("status(), fault(), feed(), top(), bottom() have none.");
        DoorList d = new DoorList();
        for (int why : new int[] {5, 8, 0}) {
            ask(d, why);
            Check.due("status behind status()", d.status(), why);
            d.fault(0);
            d.fault(9);
            Check.due("status behind fault()", d.status(), why);
            d.top();
            Check.due("status behind top()", d.status(), why);
            d.bottom();
            Check.due("status behind bottom()", d.status(), why);
            d.feed(0, 0, 0, 0, 0);
            Check.due("status behind feed()", d.status(), why);
        }
        for (int i = 0; i < 36; i++) {
            d.feed(0, 0, 0, 0, 0);
        }
        ask(d, 8);
        Check.due("a feed too many", d.feed(0, 0, 0, 0, 0), -1);
        Check.due("has no status either", d.status(), 8);
    }

    private static void ask(DoorList d, int status) {
        if (status == 5) {
            d.many(9);
        } else if (status == 8) {
            d.wins();
        } else {
            d.many(0);
        }
        Check.due("status", d.status(), status);
    }

    private static void topAndBottom() {
        Doc.says("The top of the FRACTION told latest.");
        Doc.says("Its bottom, above 0.");
        Doc.says("FRACTIONS are told by top() and bottom() without a common divisor, the bottom above 0; 0 is 0 by 1.");
        DoorList d = Check.open("name a; name b; sort 2 order a b; sort 2 order b a; ties b a;");
        // two of four struck: a wins if both of b's are, one way of six
        Check.fraction("a", d, d.seldom(0, 2), 1, 6);
        Check.fraction("b", d, d.seldom(1, 2), 5, 6);
        Check.fraction("0 is 0 by 1", d, d.seldom(0, 4), 0, 1);
        Check.fraction("1 is 1 by 1", d, d.seldom(1, 4), 1, 1);
        Check.fraction("two of four ways", d, d.seldom(0, 3), 1, 2);
        Check.refused("refused", d, d.seldom(0, 5), 5);
        Check.due("the latest top stays", d.top(), 1);
        Check.due("the latest bottom stays", d.bottom(), 2);
        Check.fill(d, 0, 0, 0);
        Check.fraction("nobody votes", d, d.doubt(0, 0), 0, 1);
        Check.due("top again", d.top(), 0);
        Check.due("bottom again", d.bottom(), 1);
    }

    private static void trayLength() {
        Doc.says("A TRAY is a row of so many numbers (at most 60; 5), all 0 (1; 5; 6).");
        for (int many : new int[] {0, 1, 59, 60}) {
            DoorList d = new DoorList();
            Check.given(many + " numbers", d, d.tray(1, 2, many));
            for (int place = 0; place < many; place++) {
                Check.given("place " + place, d, d.read(1, place), 0);
            }
            Check.refused("a place more than " + many, d, d.read(1, many), 4);
        }
        DoorList d = new DoorList();
        for (int many : new int[] {61, 62, 256, MAX}) {
            Check.refused(many + " numbers", d, d.tray(0, 0, many), 5);
        }
        Doc.says("6 below 0 (a TRAY's length).");
        for (int many : new int[] {-1, -60, MIN}) {
            Check.refused(many + " numbers", d, d.tray(0, 0, many), 6);
        }
        Check.refused("none of these made it", d, d.read(0, 0), 3);
    }

    private static void trayStatuses() {
        Doc.says("1 no such TRAY (or sort).");
        DoorList d = new DoorList();
        for (int sort : new int[] {-1, 4, MIN, MAX}) {
            Check.refused("sort " + sort, d, d.tray(0, sort, 3), 1);
            Check.refused("ahead of too many", d, d.tray(0, sort, 61), 1);
            Check.refused("ahead of below 0", d, d.tray(0, sort, -1), 1);
        }
        for (int tray : NO_TRAYS) {
            Check.refused("tray " + tray + " ahead of too many", d, d.tray(tray, 3, 61), 1);
            Check.refused("tray " + tray + " ahead of below 0", d, d.tray(tray, 0, -1), 1);
        }
        for (int sort = 0; sort < 4; sort++) {
            Check.given("sort " + sort, d, d.tray(0, sort, 3));
        }
    }

    private static void trayIsAllZero() {
        DoorList d = new DoorList();
        Check.fill(d, 0, 1, 2, 3, 4, 5);
        Check.given("shorter", d, d.tray(0, 3, 2));
        Check.refused("its old places are gone", d, d.read(0, 2), 4);
        Check.given("longer", d, d.tray(0, 3, 5));
        for (int place = 0; place < 5; place++) {
            Check.given("0 at " + place, d, d.read(0, place), 0);
        }
        d.write(0, 4, 300);
        Check.given("of another sort", d, d.tray(0, 0, 5));
        Check.given("0 there too", d, d.read(0, 4), 0);
        d.write(0, 4, 300);
        Check.given("cut by its new sort", d, d.read(0, 4), 44);
    }

    private static void writeStatuses() {
        Doc.says("A number comes to a place of a TRAY (1; 3; 4).");
        Doc.says("3 the TRAY is MISSING.");
        Doc.says("4 a place that the TRAY has not, or too few numbers.");
        DoorList d = new DoorList();
        Check.refused("1 ahead of 4", d, d.write(4, -1, 0), 1);
        Check.refused("3 ahead of 4", d, d.write(0, -1, 0), 3);
        Check.fill(d, 0, 7, 8, 9);
        for (int place : new int[] {-1, 3, 4, 60, MIN, MAX}) {
            Check.refused("place " + place, d, d.write(0, place, 5), 4);
            Check.refused("read of place " + place, d, d.read(0, place), 4);
        }
        for (int place = 0; place < 3; place++) {
            Check.given("as it was", d, d.read(0, place), 7 + place);
        }
        Check.given("the first place", d, d.write(0, 0, 1));
        Check.given("the last place", d, d.write(0, 2, 3));
        Check.given("first", d, d.read(0, 0), 1);
        Check.given("between", d, d.read(0, 1), 8);
        Check.given("last", d, d.read(0, 2), 3);
        Check.given("a tray of none", d, d.tray(1, 3, 0));
        Check.refused("has no place", d, d.write(1, 0, 1), 4);
    }

    private static void readTellsNoneFromMinusOne() {
        Doc.says("The number in a place of a TRAY; STATUS tells NONE from -1 (1; 3; 4).");
        DoorList d = new DoorList();
        Check.refused("1 ahead of 4", d, d.read(-1, -1), 1);
        Check.refused("3 ahead of 4", d, d.read(3, 99), 3);
        for (int sort = 0; sort < 4; sort++) {
            d.tray(sort, sort, 1);
            d.write(sort, 0, -1);
            Check.given("-1 in sort " + sort, d, d.read(sort, 0), -1);
            Check.refused("NONE", d, d.read(sort, 1), 4);
        }
    }

    private static void rowIs(String what, DoorList d, int tray, long... want) {
        for (int i = 0; i < want.length; i++) {
            Check.given(what + " at " + i, d, d.read(tray, i), want[i]);
        }
    }

    private static void pourAsTheyWere() {
        Doc.says("So many numbers from place i on of a TRAY come to place j on of another one, or the same, as they "
                + "were:");
        for (int i = 0; i <= 4; i++) {
            for (int j = 0; j <= 4; j++) {
                for (int many = 0; many <= 4 - Math.max(i, j); many++) {
                    DoorList d = new DoorList();
                    Check.fill(d, 2, 1, 2, 3, 4);
                    long[] want = {1, 2, 3, 4};
                    for (int k = 0; k < many; k++) {
                        want[j + k] = 1 + i + k;
                    }
                    Check.given("pour " + many + " from " + i + " to " + j, d, d.pour(2, i, 2, j, many));
                    rowIs("poured in itself", d, 2, want);
                }
            }
        }
        DoorList d = new DoorList();
        d.tray(0, 1, 60);
        d.tray(3, 1, 60);
        for (int i = 0; i < 60; i++) {
            d.write(0, i, -i);
        }
        Check.given("all sixty", d, d.pour(0, 0, 3, 0, 60));
        for (int i = 0; i < 60; i++) {
            Check.given("poured " + i, d, d.read(3, i), -i);
        }
        Check.given("the source stays", d, d.read(0, 59), -59);
        Check.given("to a longer one's end", d, d.tray(0, 1, 2) && d.write(0, 1, 5) && d.pour(0, 1, 3, 59, 1));
        Check.given("there", d, d.read(3, 59), 5);
        Check.given("no other is touched", d, d.read(3, 58), -58);
    }

    private static void pourOfNone() {
        DoorList d = new DoorList();
        d.tray(0, 0, 2);
        d.tray(1, 0, 0);
        Check.given("none of an empty one", d, d.pour(1, 0, 1, 0, 0));
        Check.given("none from the end", d, d.pour(0, 2, 1, 0, 0));
        Check.refused("none from behind the end", d, d.pour(0, 3, 1, 0, 0), 4);
        Check.refused("none to behind the end", d, d.pour(0, 0, 1, 1, 0), 4);
        Check.refused("none from -1", d, d.pour(0, -1, 1, 0, 0), 4);
        Check.refused("one of an empty one", d, d.pour(1, 0, 0, 0, 1), 4);
        Check.refused("one to an empty one", d, d.pour(0, 0, 1, 0, 1), 4);
    }

    /** A call wrong in several ways has the STATUS that is asked first: 1, 3 (either), 11, 6, 4. */
    private static void pourInThisOrder() {
        Doc.says("1, 3 (either), 11, 6, 4, asked in this order.");
        Doc.says("11 TRAYS of unlike sorts.");
        DoorList d = new DoorList();
        d.tray(0, 0, 3);
        d.tray(1, 1, 3);
        for (int tray : NO_TRAYS) {
            Check.refused("from " + tray + " to one missing", d, d.pour(tray, 9, 3, 9, -1), 1);
            Check.refused("to " + tray + " from one missing", d, d.pour(3, 9, tray, 9, -1), 1);
        }
        Check.refused("3 of the first ahead of 6", d, d.pour(3, 9, 0, 9, -1), 3);
        Check.refused("3 of the second ahead of 6", d, d.pour(0, 9, 3, 9, -1), 3);
        Check.refused("3 of both", d, d.pour(2, 0, 3, 0, 0), 3);
        for (int from = 0; from < 4; from++) {
            for (int to = 0; to < 4; to++) {
                DoorList e = new DoorList();
                e.tray(0, from, 2);
                e.tray(1, to, 2);
                boolean got = e.pour(0, 0, 1, 0, 2);
                Check.due("sort " + from + " to " + to, got, from == to);
                Check.due("its status", e.status(), from == to ? 0 : 11);
            }
        }
        Check.refused("11 ahead of 6", d, d.pour(0, 0, 1, 0, -1), 11);
        Check.refused("11 ahead of 4", d, d.pour(0, -1, 1, 9, 9), 11);
        Check.refused("11 of none at all", d, d.pour(0, 0, 1, 0, 0), 11);
        d.tray(2, 0, 3);
        for (int many : new int[] {-1, -3, MIN}) {
            Check.refused("6 ahead of 4", d, d.pour(0, -1, 2, 9, many), 6);
        }
        for (int place : new int[] {-1, 3, 60, MIN, MAX}) {
            Check.refused("from " + place, d, d.pour(0, place, 2, 0, 1), 4);
            Check.refused("to " + place, d, d.pour(0, 0, 2, place, 1), 4);
        }
        for (int many : new int[] {3, 4, 60, MAX}) {
            Check.refused(many + " from 1", d, d.pour(0, 1, 2, 0, many), 4);
            Check.refused(many + " to 1", d, d.pour(0, 0, 2, 1, many), 4);
        }
        Check.given("to the last", d, d.pour(0, 1, 2, 1, 2));
    }

    private static void feedHighestFirst() {
        Doc.says("Twenty bytes come behind those on the tape, the highest of each int first: how many it has;");
        // the fault's place tells which byte is the first that begins no TOKEN
        int[][] rows = {{0x21202020, 0, 0}, {0x20212020, 0, 1}, {0x20202120, 0, 2}, {0x20202021, 0, 3},
            {0x21202020, 1, 4}, {0x20202080, 2, 11}, {0x800A0A0A, 3, 12}, {0x0A0A0AFF, 4, 19}};
        for (int[] row : rows) {
            int[] ints = {0x20202020, 0x20202020, 0x20202020, 0x20202020, 0x20202020};
            ints[row[1]] = row[0];
            DoorList d = new DoorList();
            Check.due("feed", d.feed(ints[0], ints[1], ints[2], ints[3], ints[4]), 20);
            Check.fault("a byte of int " + row[1], d, d.hall(20), 1, row[2]);
            d.feed(0x20202020, 0x20202020, 0x20202020, 0x20202020, 0x20202020);
            Check.due("behind those there", d.feed(ints[0], ints[1], ints[2], ints[3], ints[4]), 40);
            Check.fault("twenty behind", d, d.hall(40), 1, 20 + row[2]);
        }
    }

    private static void feedFull() {
        Doc.says("NONE if there would be more than 700.");
        DoorList d = new DoorList();
        StringBuilder text = new StringBuilder("name a;");
        while (text.length() < 700) {
            text.append(text.length() % 20 == 0 ? "\n" : " ");
        }
        text.setCharAt(699, '!');
        for (int i = 0; i < 34; i++) {
            Check.feedText(d, text.substring(20 * i, 20 * i + 20));
        }
        Check.due("the 35th", d.feed(0x20202020, 0x20202020, 0x20202020, 0x20202020, 0x20202021), 700);
        for (int i = 0; i < 3; i++) {
            Check.due("one more", d.feed(0x21212121, 0x21212121, 0x21212121, 0x21212121, 0x21212121), -1);
        }
        Check.refused("701", d, d.hall(701), 5);
        Check.fault("all 700 are as they were", d, d.hall(700), 1, 699);
        Check.due("the tape is empty then", d.feed(0, 0, 0, 0, 0), 20);
        for (int i = 0; i < 34; i++) {
            d.feed(0, 0, 0, 0, 0);
        }
        Check.due("full again", d.feed(0, 0, 0, 0, 0), -1);
        Check.given("none of these", d, d.hall(0), 0);
        Check.due("and empty again", d.feed(0, 0, 0, 0, 0), 20);
    }
}
