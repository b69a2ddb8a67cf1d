/** Promises 1 to 8: a new object, STATUS, the FRACTION at first, TRAYS. */
public final class TraysTest {
    public static void main(String[] args) {
        newObject();
        statusStays();
        trayIsMade();
        writeIsCut();
        readRefuses();
        pourMoves();
        pourRefuses();
        Check.end("TraysTest");
    }

    private static void newObject() {
        DoorList d = new DoorList();
        Check.due("status", d.status(), 0);
        Check.due("top", d.top(), 0);
        Check.due("bottom", d.bottom(), 1);
        for (int i = 0; i < 4; i++) {
            Check.refused("read of a missing tray", d, d.read(i, 0), 3);
        }
        Check.given("names", d, d.many(0), 0);
        Check.given("sorts", d, d.many(1), 0);
        Check.given("voters", d, d.many(2), 0);
        Check.given("clauses", d, d.many(3), 1);
        Check.given("standing", d, d.many(4), 0);
        Check.refused("back", d, d.back(), 8);
        Check.given("act", d, d.act(), 0);
        Check.hall(d, "name a; name b; sort 1 order a b; sort 2 order b a;");
        Check.given("the rule is first", d, d.wins(), 1);
        Check.due("an empty tape", new DoorList().feed(0, 0, 0, 0, 0), 20);
    }

    private static void statusStays() {
        DoorList d = new DoorList();
        d.many(9);
        d.feed(0, 0, 0, 0, 0);
        d.fault(0);
        d.top();
        d.bottom();
        Check.due("status behind calls that have none", d.status(), 5);
        Check.due("status behind status", d.status(), 5);
        d.many(0);
        Check.due("status of a good call", d.status(), 0);
    }

    private static void trayIsMade() {
        DoorList d = new DoorList();
        Check.refused("tray -1", d, d.tray(-1, 0, 1), 1);
        Check.refused("tray 4", d, d.tray(4, 0, 1), 1);
        Check.refused("sort -1", d, d.tray(0, -1, 1), 1);
        Check.refused("sort 4", d, d.tray(0, 4, 1), 1);
        Check.refused("sort 4 and too many", d, d.tray(0, 4, 61), 1);
        Check.refused("61", d, d.tray(0, 0, 61), 5);
        Check.refused("most of all", d, d.tray(0, 0, Integer.MAX_VALUE), 5);
        Check.refused("-1", d, d.tray(0, 0, -1), 6);
        Check.refused("least of all", d, d.tray(0, 0, Integer.MIN_VALUE), 6);
        Check.refused("still missing", d, d.read(0, 0), 3);
        Check.given("60", d, d.tray(0, 3, 60));
        Check.given("the last", d, d.write(0, 59, 7));
        Check.given("none at all", d, d.tray(1, 3, 0));
        Check.refused("none there", d, d.read(1, 0), 4);
        Check.given("made anew", d, d.tray(0, 3, 60));
        Check.given("0 again", d, d.read(0, 59), 0);
        Check.refused("a failed one leaves it", d, d.tray(0, 0, 61), 5);
        Check.given("as it was", d, d.read(0, 59), 0);
    }

    private static void writeIsCut() {
        DoorList d = new DoorList();
        long v = 0x8123_4567_89AB_CD80L;
        long[] cut = {(byte) v, (short) v, (int) v, v};
        for (int sort = 0; sort < 4; sort++) {
            d.tray(sort, sort, 3);
            Check.given("write", d, d.write(sort, 1, v));
            Check.given("cut to sort " + sort, d, d.read(sort, 1), cut[sort]);
            Check.given("others stay 0", d, d.read(sort, 0), 0);
            Check.given("write -1", d, d.write(sort, 2, -1));
            Check.given("-1 is a number", d, d.read(sort, 2), -1);
        }
        Check.given("255 in 8 bits", d, d.write(0, 0, 255));
        Check.given("is -1", d, d.read(0, 0), -1);
        Check.given("32768 in 16 bits", d, d.write(1, 0, 32768));
        Check.given("is below 0", d, d.read(1, 0), -32768);
        Check.refused("write to tray 4", d, d.write(4, 0, 1), 1);
        Check.refused("write to place 3", d, d.write(0, 3, 1), 4);
        Check.refused("write to place -1", d, d.write(0, -1, 1), 4);
        DoorList e = new DoorList();
        Check.refused("write to a missing one", e, e.write(0, 0, 1), 3);
    }

    private static void readRefuses() {
        DoorList d = new DoorList();
        d.tray(2, 2, 2);
        Check.refused("tray -1", d, d.read(-1, 0), 1);
        Check.refused("tray 4", d, d.read(4, 0), 1);
        Check.refused("missing", d, d.read(3, 9), 3);
        Check.refused("place -1", d, d.read(2, -1), 4);
        Check.refused("place 2", d, d.read(2, 2), 4);
        Check.refused("least place", d, d.read(2, Integer.MIN_VALUE), 4);
        Check.refused("most place", d, d.read(2, Integer.MAX_VALUE), 4);
    }

    private static void row(DoorList d, int tray, String what, long... want) {
        for (int i = 0; i < want.length; i++) {
            Check.given(what + " " + i, d, d.read(tray, i), want[i]);
        }
    }

    private static void pourMoves() {
        DoorList d = new DoorList();
        Check.fill(d, 0, 1, 2, 3, 4, 5);
        Check.fill(d, 1, 9, 9, 9);
        Check.given("pour", d, d.pour(0, 3, 1, 1, 2));
        row(d, 1, "poured", 9, 4, 5);
        row(d, 0, "the source stays", 1, 2, 3, 4, 5);
        Check.given("pour onward in itself", d, d.pour(0, 0, 0, 1, 4));
        row(d, 0, "as they were, onward", 1, 1, 2, 3, 4);
        Check.given("pour backward in itself", d, d.pour(0, 1, 0, 0, 4));
        row(d, 0, "as they were, backward", 1, 2, 3, 4, 4);
        Check.given("pour nothing", d, d.pour(0, 5, 1, 3, 0));
        row(d, 1, "nothing poured", 9, 4, 5);
    }

    private static void pourRefuses() {
        DoorList d = new DoorList();
        d.tray(0, 0, 5);
        d.tray(1, 1, 5);
        d.tray(2, 0, 3);
        Check.refused("from tray 4", d, d.pour(4, 0, 3, 0, -1), 1);
        Check.refused("to tray -1", d, d.pour(3, 0, -1, 0, -1), 1);
        Check.refused("from a missing one", d, d.pour(3, 0, 1, 0, -1), 3);
        Check.refused("to a missing one", d, d.pour(0, 0, 3, 0, -1), 3);
        Check.refused("unlike", d, d.pour(0, 0, 1, 0, -1), 11);
        Check.refused("below 0", d, d.pour(0, -1, 2, 9, -1), 6);
        Check.refused("from -1", d, d.pour(0, -1, 2, 0, 1), 4);
        Check.refused("to -1", d, d.pour(0, 0, 2, -1, 1), 4);
        Check.refused("too many of the source", d, d.pour(2, 1, 0, 0, 3), 4);
        Check.refused("too many for the target", d, d.pour(0, 0, 2, 1, 3), 4);
        Check.refused("most of all", d, d.pour(0, 1, 2, 1, Integer.MAX_VALUE), 4);
        Check.refused("from far", d, d.pour(0, Integer.MAX_VALUE, 2, 0, 1), 4);
        Check.refused("none from far", d, d.pour(0, 6, 2, 0, 0), 4);
    }
}
