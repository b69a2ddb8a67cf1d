import java.math.BigInteger;

/** PARTED, COUSIN, ALIKE, GAME, DOUBT, SELDOM and promises 30 to 37 sentence by sentence, at their bounds. */
public final class SidesBoundsTest {
    private static final int MIN = Integer.MIN_VALUE;
    private static final int MAX = Integer.MAX_VALUE;
    private static final String EIGHT = "name a;name b;name c;name d;name e;name f;name g;name h;";

    public static void main(String[] args) {
        parted();
        partedStatuses();
        parting();
        partingStatuses();
        cousins();
        alike();
        game();
        gameTurns();
        gameStatuses();
        opening();
        doubt();
        doubtOfTwelve();
        doubtInThisOrder();
        seldom();
        seldomMost();
        seldomStatuses();
        Check.end("SidesBoundsTest");
    }

    private static void parted() {
        Doc.says("PARTED: the SORTS are split in two HALLS (a set of SORTS is the first one); in each the RULE tells who wins "
                + "(none, if nobody is IN there); then these two are the ones that STAND for all.");
        // b beats a and c one by one; all together a has most firsts
        DoorList d = Check.open("name a; name b; name c; name x off; sort 4 order x a b c; sort 3 order b c a x; "
                + "sort 2 order c b a x; sort 0 out 9 order c a b x;");
        int[] want = {0, 1, 1, 2};
        for (int set = 0; set < 16; set++) {
            // sort 3 has nobody, so it sways neither hall; the two halls may be told either way round
            int three = set & 7;
            int half = three > 3 ? 7 - three : three;
            Check.given("parted " + set, d, d.parted(set), want[half]);
        }
        d.voters(0, 0, 0);
        d.voters(1, 0, 0);
        Check.given("nobody in the first hall: c alone stands", d, d.parted(0), 2);
        Check.given("nobody in the first hall but sorts", d, d.parted(11), 2);
        Check.given("nobody in the second hall", d, d.parted(4), 2);
        d.voters(2, 0, 9);
        for (int set = 0; set < 16; set++) {
            Check.refused("nobody is in, none stands then", d, d.parted(set), 8);
        }
        Check.given("though by ties a wins", d, d.wins(), 0);
        Check.given("nothing is changed", d, d.many(4), 7);
        // a hall without voters sends nobody, though by TIES one would win there
        DoorList e = Check.open("name a; name b; sort 5 order b a; sort 0 order a b; ties a b;", "points 0;");
        Check.given("points of nothing: a by ties in the full hall", e, e.parted(1), 0);
        DoorList f = Check.open("name a; name b; name c; sort 2 order b c a; sort 0 order a b c; ties a b c;");
        Check.given("b alone is sent", f, f.parted(1), 1);
        Check.given("b alone is sent", f, f.parted(2), 1);
    }

    private static void partedStatuses() {
        Doc.says("Who WINS, a set of SORTS being the first HALL (2; 8: none STANDS).");
        Doc.says("2 no such NAME, SORT; a set with others.");
        DoorList d = new DoorList();
        Check.refused("no hall", d, d.parted(0), 8);
        for (int set : new int[] {1, -1, MIN, MAX}) {
            Check.refused("no sorts: " + set, d, d.parted(set), 2);
        }
        d = Check.open("name a; name b; sort 1 order a b; sort 1 order a b;");
        for (int set : new int[] {4, 5, 7, 8, -1, -4, MIN, MAX}) {
            Check.refused("a set with others: " + set, d, d.parted(set), 2);
        }
        for (int set = 0; set < 4; set++) {
            Check.given("parted " + set, d, d.parted(set), 0);
        }
        d.stand(0, false);
        d.stand(1, false);
        Check.refused("none stands", d, d.parted(3), 8);
        Check.refused("2 ahead of 8", d, d.parted(4), 2);
        d = Check.open("name a; name b;" + "sort 1 order a b;".repeat(19) + "sort 99 order b a;");
        Check.given("all twenty", d, d.parted((1 << 20) - 1), 1);
        Check.given("the last alone", d, d.parted(1 << 19), 1);
        Check.refused("a 21st", d, d.parted(1 << 20), 2);
        DoorList e = Check.open("name a; name b;");
        Check.refused("nobody is in", e, e.parted(0), 8);
        Check.refused("no sorts", e, e.parted(1), 2);
    }

    private static void parting() {
        Doc.says("Who can be made to WIN by parting: the least set (0 to all).");
        DoorList d = Check.open("name a; name b; name c; sort 4 order a b c; sort 3 order b c a; sort 2 order c b a;");
        Check.given("a by 0", d, d.parting(0), 0);
        Check.given("b by 1, not 2 or 6", d, d.parting(1), 1);
        Check.given("c by 3, not 4", d, d.parting(2), 3);
        Doc.says("The least set by which a NAME WINS so (2; 7: more than 12 SORTS; 9: none).");
        String twelve = "name a; name b; name c;" + " sort 0 order a b c;".repeat(10) + " sort 3 order a b c; sort 2 order b c a;";
        d = Check.open(twelve);
        Check.given("a by 0", d, d.parting(0), 0);
        Check.refused("b has not enough against a", d, d.parting(1), 9);
        d.voters(11, 4, 0);
        Check.given("b by 0", d, d.parting(1), 0);
        Check.refused("a not", d, d.parting(0), 9);
        // a only if sort 11's four are kept from sort 10's three and sort 9's c is the other one
        d = Check.open("name a; name b; name c;" + " sort 0 order a b c;".repeat(9)
                + " sort 4 order c b a; sort 3 order b a c; sort 2 order a b c;");
        Check.given("c wins all", d, d.wins(), 2);
        Check.given("c by 0", d, d.parting(2), 0);
        Check.given("b: c in one hall, b in the other", d, d.parting(1), 1 << 9);
        Check.given("a: alone against c", d, d.parting(0), (1 << 9) + (1 << 10));
    }

    private static void partingStatuses() {
        String twelve = "name a; name b;" + " sort 1 order a b;".repeat(12);
        DoorList d = Check.open(twelve);
        Check.given("12 sorts", d, d.parting(0), 0);
        Check.refused("none", d, d.parting(1), 9);
        for (int name : new int[] {-1, 2, 8, MIN, MAX}) {
            Check.refused("name " + name, d, d.parting(name), 2);
        }
        d = Check.open(twelve + " sort 0 order a b;");
        Check.refused("13 sorts", d, d.parting(0), 7);
        Check.refused("7 ahead of 9", d, d.parting(1), 7);
        Check.refused("2 ahead of 7", d, d.parting(2), 2);
        d = Check.open("name a off; sort 1 order a;");
        Check.refused("one that does not stand", d, d.parting(0), 9);
        d = Check.open("name a;");
        Check.refused("nobody is in", d, d.parting(0), 9);
    }

    private static void cousins() {
        Doc.says("COUSIN of a NAME a: a NAME off, such that if it is put UP, a (who WINS) does not, and neither does the "
                + "cousin.");
        Doc.says("COUSINS of who WINS: a set (8: none WINS).");
        // c takes from a so that b wins; d wins itself; e takes nothing
        DoorList d = Check.open("name a; name b; name c off; name d off; name e off; sort 3 order d c a b e; "
                + "sort 2 order d a b c e; sort 4 order b d a c e;");
        Check.given("a", d, d.wins(), 0);
        Check.given("c alone", d, d.cousins(), 4);
        d.stand(2, true);
        Check.given("no cousins: c stands already", d, d.cousins(), 0);
        Check.given("none is put up by it", d, d.many(4), 7);
        DoorList e = Check.open("name a;name b off;name c off;name d off;name e off;name f off;name g off;name h; "
                + "sort 6 order b c d e f g a h; sort 2 order a b c d e f g h; sort 5 order h b c d e f g a; "
                + "sort 0 order a b c d e f g h;");
        Check.given("a", e, e.wins(), 0);
        Check.given("each of the six would win itself", e, e.cousins(), 0);
        e.voters(0, 4, 0);
        Check.given("a has 6, h 5: each takes 4 and h wins", e, e.cousins(), 126);
        for (int name = 0; name < 8; name++) {
            e.stand(name, false);
        }
        Check.refused("none wins", e, e.cousins(), 8);
        e = Check.open("name x off; name a; name b; sort 2 order x a b; sort 1 order a x b; sort 2 order b x a; ties a b x;");
        Check.given("NAME 0 takes two, b and it have two each: b is ahead", e, e.cousins(), 1);
        DoorList f = new DoorList();
        Check.refused("no hall", f, f.cousins(), 8);
    }

    private static void alike() {
        Doc.says("ALIKE are two NAMES for those voters IN who have them next to one another among these two and all others that "
                + "STAND.");
        Doc.says("ALIKE (2: one and the same, too).");
        DoorList d = Check.open("name a; name b; name c; name x off; name y off; sort 1 out 50 order a x b c y; "
                + "sort 2 order a c b x y; sort 4 order x y a c b; sort 8 order b y x c a;");
        int[][] want = {{0, 1, 1}, {0, 2, 14}, {1, 2, 15}, {0, 3, 5}, {3, 4, 14}, {2, 4, 9}, {0, 4, 4}};
        for (int[] row : want) {
            Check.given("alike " + row[0] + " " + row[1], d, d.alike(row[0], row[1]), row[2]);
            Check.given("alike " + row[1] + " " + row[0], d, d.alike(row[1], row[0]), row[2]);
        }
        d.stand(3, true);
        Check.given("x stands between", d, d.alike(0, 1), 0);
        Check.given("x stands between in sort 3", d, d.alike(1, 2), 7);
        for (int name = 0; name < 5; name++) {
            Check.refused("one and the same", d, d.alike(name, name), 2);
        }
        for (int name : new int[] {-1, 5, 8, MIN, MAX}) {
            Check.refused("alike " + name, d, d.alike(name, 0), 2);
            Check.refused("alike 0, " + name, d, d.alike(0, name), 2);
            Check.refused("the same that is none", d, d.alike(name, name), 2);
        }
        for (int name = 0; name < 5; name++) {
            d.stand(name, false);
        }
        Check.given("nobody stands between any", d, d.alike(0, 4), 15);
        DoorList e = Check.open("name a; name b;");
        Check.given("without voters", e, e.alike(0, 1), 0);
        DoorList f = Check.open(EIGHT + "sort 99 order a b c d e f g h;".repeat(20).substring(0, 30 * 19));
        Check.given("the first and the last", f, f.alike(0, 7), 0);
        Check.given("the last two", f, f.alike(7, 6), 99 * 19);
    }

    private static void game() {
        Doc.says("GAME: two who change by turns, the one first, each so many times (1 to 3): each time the one may put UP or take "
                + "DOWN one of some NAMES (a set), the other one one of some others (sets without a common NAME), or do nothing; "
                + "the one wants a NAME to WIN at the end: whether it can make sure of it, and the first CHANGE of that (none "
                + "ahead of all, then the least NAME).");
        Doc.says("GAME: 1 if the one can make sure that a NAME WINS, else 0 (2: sets with others, with a common NAME, too; 5).");
        DoorList d = Check.open("name a; name b; name c off; sort 2 order b a c; sort 1 order c a b; sort 1 order a b c;");
        Check.given("a by ties", d, d.wins(), 0);
        Check.given("a with b for the one", d, d.game(0, 2, 0, 1), 1);
        Check.given("none ahead of all", d, d.opening(), -1);
        Check.given("a against c, which takes from it", d, d.game(0, 2, 4, 1), 1);
        Check.given("b is taken down", d, d.opening(), 1);
        Check.given("neither may change: a by ties", d, d.game(0, 0, 0, 3), 1);
        Check.given("nothing", d, d.opening(), -1);
        Check.given("neither may change: not b", d, d.game(1, 0, 0, 3), 0);
        Check.given("the other one takes a down", d, d.game(0, 0, 1, 1), 0);
        Check.given("the one takes a down: b", d, d.game(1, 1, 0, 1), 1);
        Check.given("by a", d, d.opening(), 0);
        Check.given("or by c, which takes from a", d, d.game(1, 5, 0, 1), 1);
        Check.given("the least name", d, d.opening(), 0);
        Check.given("c alone for the one", d, d.game(1, 4, 0, 1), 1);
        Check.given("by c", d, d.opening(), 2);
        Check.given("the other one has a: it does nothing", d, d.game(1, 4, 1, 1), 1);
        Check.given("the other one has b", d, d.game(1, 5, 2, 3), 0);
        Check.given("the other one puts c up: b", d, d.game(0, 0, 4, 1), 0);
        Check.given("nothing is changed", d, d.many(4), 3);
        DoorList e = Check.open("name a off; sort 1 order a;");
        Check.given("a is put up", e, e.game(0, 1, 0, 1), 1);
        Check.given("by the one", e, e.opening(), 0);
        Check.given("the other one need not", e, e.game(0, 0, 1, 3), 0);
    }

    private static void gameTurns() {
        // h stands only in the way of nobody: for it seven must be down, each turn one
        for (int down = 0; down <= 4; down++) {
            StringBuilder hall = new StringBuilder();
            for (int i = 0; i < 5; i++) {
                hall.append("name ").append((char) ('a' + i)).append(i < down || i == 4 ? ";" : " off;");
            }
            DoorList d = Check.open(hall + "sort 1 order a b c d e;");
            for (int turns = 1; turns <= 3; turns++) {
                Check.given(down + " down in " + turns, d, d.game(4, 15, 0, turns), down <= turns ? 1 : 0);
                if (down <= turns) {
                    // with a turn to spare nothing is ahead of all
                    Check.given("first", d, d.opening(), down < turns ? -1 : 0);
                }
            }
            for (int turns : new int[] {0, 4, -1, MIN, MAX}) {
                Check.refused(turns + " turns", d, d.game(4, 15, 0, turns), 5);
            }
        }
        // the other one needs as many turns as there are to put up
        DoorList e = Check.open("name a; name x off; name y off; name z off; sort 3 order a x y z; sort 3 order x a y z; "
                + "sort 2 order y a x z; sort 2 order z a x y; ties x a y z;");
        // a has 10; with x 7 : 3; with x and y 5 : 3; with all three 3 : 3, and x is ahead
        for (int turns = 1; turns <= 3; turns++) {
            Check.given("all three in " + turns, e, e.game(0, 0, 14, turns), turns < 3 ? 1 : 0);
        }
        // from a hall where none stands; what an earlier game came to is forgotten
        DoorList f = Check.open("name a off; name b off; sort 1 order a b;");
        for (int time = 0; time < 2; time++) {
            Check.given("a is put up", f, f.game(0, 1, 0, 1), 1);
            Check.given("at once", f, f.opening(), 0);
            Check.given("a is put up, of two turns", f, f.game(0, 1, 0, 2), 1);
            Check.given("later", f, f.opening(), -1);
            Check.given("nobody puts it up", f, f.game(0, 0, 0, 3), 0);
            Check.given("the other one does not", f, f.game(0, 2, 1, 3), 0);
            Check.given("b may be put up, a too", f, f.game(1, 2, 1, 3), 0);
        }
        // the one comes first, the other one has the last word
        DoorList d = Check.open("name a off; name b; sort 1 order a b;");
        Check.given("the other one takes it down", d, d.game(0, 0, 1, 1), 0);
        for (int turns = 1; turns <= 3; turns++) {
            Check.given("b: the other one puts a up at last", d, d.game(1, 0, 1, turns), 0);
            Check.given("a for the one: it is last to be changed by it", d, d.game(0, 1, 2, turns), 1);
        }
    }

    private static void gameStatuses() {
        DoorList d = Check.open("name a; name b; name c; sort 1 order a b c;");
        for (int name : new int[] {-1, 3, 8, MIN, MAX}) {
            Check.refused("name " + name, d, d.game(name, 0, 0, 1), 2);
            Check.refused("2 ahead of 5", d, d.game(name, 0, 0, 0), 2);
        }
        for (int set : new int[] {8, 9, 15, 16, 256, -1, MIN, MAX}) {
            Check.refused("mine " + set, d, d.game(0, set, 0, 1), 2);
            Check.refused("others " + set, d, d.game(0, 0, set, 1), 2);
            Check.refused("2 ahead of 5", d, d.game(0, 0, set, 4), 2);
        }
        for (int common = 1; common < 8; common++) {
            Check.refused("common " + common, d, d.game(0, common, common, 1), 2);
            Check.refused("common with all", d, d.game(0, 7, common, 0), 2);
        }
        Check.given("all and none", d, d.game(0, 7, 0, 1), 1);
        Check.given("none and all", d, d.game(0, 0, 7, 1), 0);
        DoorList e = new DoorList();
        Check.refused("no hall", e, e.game(0, 0, 0, 1), 2);
    }

    private static void opening() {
        Doc.says("The NAME changed first in that; NONE with STATUS 0: nothing (by game() latest with 1; 8: none such).");
        DoorList d = Check.open("name a; name b; sort 1 order a b;");
        Check.refused("no game yet", d, d.opening(), 8);
        Check.given("not b", d, d.game(1, 0, 0, 1), 0);
        Check.refused("none with 1", d, d.opening(), 8);
        Check.refused("a game refused", d, d.game(0, 4, 0, 1), 2);
        Check.refused("none with 1 still", d, d.opening(), 8);
        Check.given("a", d, d.game(0, 0, 0, 1), 1);
        Check.given("NONE with STATUS 0", d, d.opening(), -1);
        Check.given("b by a", d, d.game(1, 1, 0, 1), 1);
        Check.given("NAME 0", d, d.opening(), 0);
        Check.given("a game with 0", d, d.game(1, 0, 0, 1), 0);
        Check.given("the latest with 1", d, d.opening(), 0);
        Check.refused("a game refused", d, d.game(0, 0, 0, 4), 5);
        Check.given("the latest with 1", d, d.opening(), 0);
        Check.hall(d, "");
        Check.given("another hall", d, d.opening(), 0);
        DoorList e = Check.open(EIGHT.replace("h;", "h off;") + "sort 1 order h a b c d e f g;");
        Check.given("h", e, e.game(7, 128, 127, 3), 1);
        Check.given("may come last", e, e.opening(), -1);
        Check.given("h", e, e.game(7, 255, 0, 1), 1);
        Check.given("NAME 7", e, e.opening(), 7);
    }

    private static void doubt() {
        Doc.says("DOUBT: each voter IN of a SORT votes (alone) with a chance of so many sixteenths (a TRAY, by SORTS, 0 to 16): "
                + "the CHANCE that a NAME WINS, if those that vote are all that are IN; at most 12 voters are IN: a FRACTION.");
        Doc.says("The FRACTION is the CHANCE of DOUBT");
        DoorList d = Check.open("name a; name b; sort 1 out 9 order a b; ties b a;");
        for (int share = 0; share <= 16; share++) {
            Check.fill(d, 0, share);
            int common = BigInteger.valueOf(share).gcd(BigInteger.valueOf(16)).intValue();
            Check.fraction("a by " + share, d, d.doubt(0, 0), share / common, 16 / common);
            int rest = BigInteger.valueOf(16 - share).gcd(BigInteger.valueOf(16)).intValue();
            Check.fraction("b by " + share, d, d.doubt(0, 1), (16 - share) / rest, 16 / rest);
        }
        d = Check.open("name a; name b; sort 2 order a b; sort 1 order b a; sort 0 order b a; ties b a;");
        Check.fill(d, 3, 4, 8, 16, 99);
        // a ahead of b: two of its own come (1/16), or one (6/16) and b's does not (1/2)
        Check.fraction("a", d, d.doubt(3, 0), 1, 4);
        Check.given("nothing is changed", d, d.many(2), 3);
        d.stand(0, false);
        Check.fraction("one that does not stand", d, d.doubt(3, 0), 0, 1);
        Check.fraction("b alone", d, d.doubt(3, 1), 1, 1);
        DoorList e = Check.open("name a; name b;");
        e.tray(0, 0, 0);
        Check.fraction("without sorts a tray of none will do", e, e.doubt(0, 0), 1, 1);
        Check.fraction("b then", e, e.doubt(0, 1), 0, 1);
    }

    private static void doubtOfTwelve() {
        DoorList d = Check.open("name a; name b; sort 12 order a b; ties b a;");
        for (int share : new int[] {0, 1, 8, 15, 16}) {
            Check.fill(d, 0, share);
            BigInteger all = BigInteger.valueOf(16).pow(12);
            BigInteger some = all.subtract(BigInteger.valueOf(16 - share).pow(12));
            BigInteger common = all.gcd(some);
            Check.fraction("a by " + share, d, d.doubt(0, 0), some.divide(common).longValueExact(),
                    all.divide(common).longValueExact());
        }
        d = Check.open("name a; name b;" + "sort 1 order b a;".repeat(12) + "sort 0 order b a;".repeat(8));
        d.tray(1, 2, 60);
        for (int i = 0; i < 20; i++) {
            d.write(1, i, i == 0 ? 16 : 1);
        }
        Check.fraction("b: the first comes", d, d.doubt(1, 1), 1, 1);
        d.write(1, 0, 1);
        BigInteger none = BigInteger.valueOf(15).pow(12);
        Check.fraction("a: nobody comes", d, d.doubt(1, 0), none.longValueExact(),
                BigInteger.valueOf(16).pow(12).longValueExact());
        // TRAY's numbers behind the SORTS are not asked
        d.write(1, 20, 17);
        d.write(1, 59, -1);
        Check.fraction("others are not asked", d, d.doubt(1, 0), none.longValueExact(),
                BigInteger.valueOf(16).pow(12).longValueExact());
    }

    private static void doubtInThisOrder() {
        Doc.says("(1; 2; 3; 4; 5; 7: more than 12 voters IN; in this order).");
        DoorList d = Check.open("name a; name b; sort 7 out 99 order a b; sort 6 order b a;");
        for (int tray : new int[] {-1, 4, MIN, MAX}) {
            Check.refused("tray " + tray + " ahead of 2", d, d.doubt(tray, 2), 1);
        }
        for (int name : new int[] {-1, 2, MIN, MAX}) {
            Check.refused("name " + name + " ahead of 3", d, d.doubt(0, name), 2);
        }
        for (int tray = 0; tray < 4; tray++) {
            Check.refused("missing ahead of 7", d, d.doubt(tray, 0), 3);
        }
        Check.fill(d, 0, 17);
        Check.refused("4 ahead of 5", d, d.doubt(0, 0), 4);
        d.tray(1, 0, 0);
        Check.refused("a tray of none", d, d.doubt(1, 0), 4);
        long[][] wrong = {{17, 0}, {0, 17}, {-1, 0}, {0, -1}, {Long.MAX_VALUE, 0}, {0, Long.MIN_VALUE}, {1L << 32, 0},
            {(1L << 32) + 3, 0}};
        for (long[] row : wrong) {
            Check.fill(d, 0, row);
            Check.refused("5 ahead of 7: " + row[0] + ", " + row[1], d, d.doubt(0, 0), 5);
        }
        Check.fill(d, 0, 16, 16);
        Check.refused("13 voters", d, d.doubt(0, 0), 7);
        d.voters(0, 6, 99);
        Check.fraction("12 voters", d, d.doubt(0, 0), 1, 1);
        Check.fill(d, 0, 16, 17);
        d.voters(1, 0, 0);
        Check.refused("17 though nobody of that sort is in", d, d.doubt(0, 0), 5);
    }

    private static BigInteger choose(int n, int k) {
        BigInteger ways = BigInteger.ONE;
        for (int i = 0; i < k; i++) {
            ways = ways.multiply(BigInteger.valueOf(n - i)).divide(BigInteger.valueOf(i + 1));
        }
        return ways;
    }

    private static void chanceIs(String what, DoorList d, boolean got, BigInteger top, BigInteger bottom) {
        BigInteger common = top.gcd(bottom);
        Check.fraction(what, d, got, top.divide(common).longValueExact(), bottom.divide(common).longValueExact());
    }

    private static void seldom() {
        Doc.says("SELDOM: so many voters (0 to 12) of all that are IN were struck, all such sets being alike likely: the CHANCE "
                + "that a NAME WINS then, over all ways to strike so many of each SORT: a FRACTION (at most 99 voters IN, 8 "
                + "SORTS).");
        DoorList d = Check.open("name a; name b; sort 12 out 99 order a b; sort 12 order b a; ties b a;");
        for (int many = 0; many <= 12; many++) {
            // a wins if fewer of its own are struck than of b's
            BigInteger good = BigInteger.ZERO;
            for (int own = 0; own <= many; own++) {
                if (own < many - own) {
                    good = good.add(choose(12, own).multiply(choose(12, many - own)));
                }
            }
            chanceIs("a, struck " + many, d, d.seldom(0, many), good, choose(24, many));
            chanceIs("b, struck " + many, d, d.seldom(1, many), choose(24, many).subtract(good), choose(24, many));
        }
        Check.given("nothing is changed", d, d.many(2), 24);
        d.voters(0, 13, 0);
        Check.fraction("as many as are in now", d, d.seldom(0, 0), 1, 1);
        d.voters(1, 14, 0);
        Check.fraction("as many as are in now", d, d.seldom(0, 0), 0, 1);
        d.stand(0, false);
        Check.fraction("one that does not stand", d, d.seldom(0, 3), 0, 1);
        Check.fraction("b alone", d, d.seldom(1, 3), 1, 1);
        DoorList e = Check.open("name a; name b;");
        Check.fraction("nobody is in, none is struck", e, e.seldom(0, 0), 1, 1);
        Check.refused("one can't be", e, e.seldom(0, 1), 5);
    }

    private static void seldomMost() {
        StringBuilder text = new StringBuilder("name a; name b;");
        for (int i = 0; i < 8; i++) {
            text.append("sort ").append(i == 7 ? 15 : 12).append(i % 2 == 0 ? " order a b;" : " order b a;");
        }
        DoorList d = Check.open(text.toString());
        Check.given("99 voters", d, d.many(2), 99);
        // 48 for a, 51 for b: a wins (by ties too) if of b at least three more are struck
        BigInteger good = BigInteger.ZERO;
        for (int own = 0; own <= 12; own++) {
            if (48 - own >= 51 - (12 - own)) {
                good = good.add(choose(48, own).multiply(choose(51, 12 - own)));
            }
        }
        chanceIs("eight sorts, 99 voters, 12 struck", d, d.seldom(0, 12), good, choose(99, 12));
        DoorList e = Check.open("name a; name b; sort 99 order a b;");
        Check.fraction("99 of one sort", e, e.seldom(0, 12), 1, 1);
        DoorList f = Check.open("name a; name b; sort 1 order a b; sort 98 order b a;", "bar 2; first;");
        // of 99 voters the one has more than one of a hundred, but not two
        Check.fraction("b", f, f.seldom(1, 12), 1, 1);
    }

    private static void seldomStatuses() {
        Doc.says("The FRACTION is the CHANCE of SELDOM (2; 5: so many, more than are IN; 7: more than 99 IN, than 8 SORTS).");
        Doc.says("7 one too many; too many voters.");
        DoorList d = Check.open("name a; name b; sort 5 out 99 order a b; sort 6 order b a;");
        for (int name : new int[] {-1, 2, 8, MIN, MAX}) {
            Check.refused("name " + name, d, d.seldom(name, 1), 2);
            Check.refused("2 ahead of 5", d, d.seldom(name, 13), 2);
        }
        for (int many : new int[] {-1, 12, 13, MIN, MAX}) {
            Check.refused(many + " of 11", d, d.seldom(0, many), 5);
        }
        Check.fraction("11 of 11", d, d.seldom(0, 11), 1, 1);
        d.voters(0, 50, 99);
        d.voters(1, 49, 99);
        Check.given("99 in", d, d.seldom(0, 0));
        Check.refused("13 of 99", d, d.seldom(0, 13), 5);
        d.voters(1, 50, 0);
        Check.refused("100 in", d, d.seldom(0, 0), 7);
        Check.refused("5 ahead of 7", d, d.seldom(0, 13), 5);
        Check.refused("5 ahead of 7", d, d.seldom(0, -1), 5);
        String eight = "name a; name b;" + "sort 1 order a b;".repeat(8);
        d = Check.open(eight);
        Check.fraction("8 sorts", d, d.seldom(0, 8), 1, 1);
        d = Check.open(eight + "sort 0 order a b;");
        Check.refused("9 sorts", d, d.seldom(0, 1), 7);
        Check.refused("5 ahead of 7", d, d.seldom(0, 9), 5);
    }
}
