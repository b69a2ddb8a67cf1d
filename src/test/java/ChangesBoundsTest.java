/** FEWEST, CHEAPEST, SAFE and promises 25 to 29 sentence by sentence, at their bounds. */
public final class ChangesBoundsTest {
    private static final int MIN = Integer.MIN_VALUE;
    private static final int MAX = Integer.MAX_VALUE;
    private static final String EIGHT = "name a;name b;name c;name d;name e;name f;name g;name h;";

    public static void main(String[] args) {
        kindsOfChanges();
        aim();
        leastCheapestFirst();
        leastSetOfNames();
        allEightNames();
        atMostSoManyVoters();
        onlyThoseThatAre();
        lesserChangeFirst();
        inAheadOfOut();
        cheapest();
        safe();
        safeIfThereAreNone();
        names();
        people();
        peopleTwelveSorts();
        found();
        moved();
        safeStatuses();
        Check.end("ChangesBoundsTest");
    }

    private static void setIs(String what, DoorList d, int got, int many, int cost, int set) {
        Check.given(what, d, got, many);
        Check.given("cost of " + what, d, d.found(0), cost);
        Check.given("set of " + what, d, d.found(1), set);
    }

    private static void rowIs(String what, DoorList d, int got, int many, int cost, int... row) {
        Check.given(what, d, got, many);
        Check.given("cost of " + what, d, d.found(0), cost);
        for (int sort = 0; sort < row.length; sort++) {
            Check.given("sort " + sort + " of " + what, d, d.moved(sort), row[sort]);
        }
    }

    private static void kindsOfChanges() {
        Doc.says("FEWEST: kinds of CHANGES (a set: 1 UP, 2 DOWN, 4 IN, 8 OUT; not both names and voters),");
        DoorList d = Check.open("name a; name b; name c off; sort 3 out 2 order c a b; sort 2 out 2 order b a c;");
        for (int kinds = -1; kinds <= 16; kinds++) {
            boolean ofNames = kinds >= 1 && kinds <= 3;
            boolean ofVoters = kinds == 4 || kinds == 8 || kinds == 12;
            d.names(0, true, kinds, false);
            Check.due("status of names " + kinds, d.status(), ofNames ? 0 : 5);
            d.people(0, true, kinds, 5, false);
            Check.due("status of people " + kinds, d.status(), ofVoters ? 0 : 5);
            d.safe(kinds);
            Check.due("status of safe " + kinds, d.status(), ofNames || ofVoters ? 0 : 5);
        }
        setIs("c by 1: up", d, d.names(2, true, 1, false), 1, 1, 4);
        Check.refused("c by 2: down", d, d.names(2, true, 2, false), 9);
        setIs("b by 2: down", d, d.names(1, true, 2, false), 1, 1, 1);
        Check.refused("b by 1: up", d, d.names(1, true, 1, false), 9);
        DoorList e = Check.open("name z off; name y; name x off; sort 1 order z x y;");
        Check.refused("z can't be put up by 2", e, e.names(0, true, 2, false), 9);
        Check.refused("x can't be put up by 2", e, e.names(2, true, 2, true), 9);
        setIs("y can't be taken down by 1", e, e.names(1, false, 1, false), 1, 1, 1);
        e.stand(0, true);
        Check.refused("z can't be taken down by 1", e, e.names(1, true, 1, false), 9);
        rowIs("b by 4: in", d, d.people(1, true, 4, 5, false), 2, 2, 0, 2);
        rowIs("b by 8: out", d, d.people(1, true, 8, 5, false), 2, 2, -2, 0);
        rowIs("b by 12", d, d.people(1, true, 12, 5, false), 2, 2, 0, 2);
    }

    private static void aim() {
        Doc.says("an aim (a NAME is to WIN, or not to WIN; to WIN it must STAND then):");
        DoorList d = Check.open("name a; name b off; sort 1 out 5 order b a;");
        setIs("b must stand", d, d.names(1, true, 3, false), 1, 1, 2);
        Check.refused("b can't win by voters", d, d.people(1, true, 12, 5, false), 9);
        rowIs("b does not win as it is", d, d.people(1, false, 12, 5, false), 0, 0, 0);
        setIs("nor by names", d, d.names(1, false, 3, false), 0, 0, 0);
        setIs("a does not win if it is down", d, d.names(0, false, 2, false), 1, 1, 1);
        setIs("a wins as it is", d, d.names(0, true, 3, true), 0, 0, 0);
        d.stand(0, false);
        setIs("none stands: a does not win", d, d.names(0, false, 3, false), 0, 0, 0);
        rowIs("none stands: a does not win", d, d.people(0, false, 4, 0, false), 0, 0, 0);
        Check.refused("none stands: a can't win", d, d.people(0, true, 12, 5, true), 9);
        setIs("a is put up", d, d.names(0, true, 1, true), 1, 1, 1);
    }

    private static void leastCheapestFirst() {
        Doc.says("the least number of CHANGES; of several the cheapest; of several the first.");
        // a does not win if it is down, or if x, y or z is up
        String hall = "name a cost %d; name x off cost %d; name y off cost %d; name z off cost %d; sort 3 order x y z a; "
                + "sort 1 order a x y z;";
        int[][] rows = {{9, 5, 4, 3, 8, 3}, {9, 5, 3, 3, 4, 3}, {3, 3, 3, 3, 1, 3}, {0, 0, 0, 0, 1, 0}, {99, 0, 99, 0, 2, 0},
            {99, 99, 99, 99, 1, 99}, {99, 99, 99, 98, 8, 98}};
        for (int[] row : rows) {
            DoorList d = Check.open(String.format(hall, row[0], row[1], row[2], row[3]));
            setIs("the cheapest of one", d, d.names(0, false, 3, false), 1, row[5], row[4]);
        }
        DoorList d = Check.open("name a; name b; sort 3 cost 5 order a b; sort 1 out 9 cost 2 order b a; "
                + "sort 1 out 9 cost 2 order b a; ties b a;");
        rowIs("the cheapest row of one", d, d.people(1, true, 12, 5, false), 1, 2, 0, 0, 1);
        d = Check.open("name a; name b; sort 3 cost 1 order a b; sort 1 out 9 cost 2 order b a; "
                + "sort 1 out 9 cost 2 order b a; ties b a;");
        rowIs("the cheapest row of one", d, d.people(1, true, 12, 5, false), 1, 1, -1, 0, 0);
    }

    private static void leastSetOfNames() {
        Doc.says("Of names: sets of changed names, the least as a number (1 for NAME 0, 2 for 1 ..).");
        // x wins only with two of the three others down
        DoorList d = Check.open("name a; name b; name c; name x; sort 2 order a x b c; sort 2 order b x a c; "
                + "sort 2 order c x a b; sort 1 order x a b c; ties a b c x;");
        setIs("x by two", d, d.names(3, true, 2, false), 1, 1, 1);
        d = Check.open("name a; name b; name c; name x; sort 3 order a x b c; sort 3 order b x a c; "
                + "sort 3 order c x a b; ties a b c x;");
        setIs("a or b or c is down: the least is a", d, d.names(3, true, 2, false), 2, 2, 3);
        setIs("cheapest likewise", d, d.names(3, true, 2, true), 2, 2, 3);
        // the cheap way of two is a lesser number than the dear way of one
        DoorList e = Check.open("name b off; name c off; name x; name a cost 9; sort 1 order b a x c; sort 1 order c a x b; "
                + "sort 3 order a x b c; sort 4 order x a b c; ties a x b c;");
        setIs("x by one", e, e.names(2, true, 3, false), 1, 9, 8);
        setIs("x cheapest, by two", e, e.names(2, true, 3, true), 2, 2, 3);
        d = Check.open("name a cost 2; name b; name c; name x; sort 3 order a x b c; sort 3 order b x a c; "
                + "sort 3 order c x a b; ties a b c x;");
        setIs("b and c are cheaper", d, d.names(3, true, 2, false), 2, 2, 6);
    }

    private static void allEightNames() {
        DoorList d = Check.open(EIGHT + "sort 1 order a b c d e f g h;");
        setIs("h by seven down", d, d.names(7, true, 3, false), 7, 7, 127);
        setIs("not a", d, d.names(0, false, 3, false), 1, 1, 1);
        d = Check.open(EIGHT.replace(";", " off;") + "sort 1 order a b c d e f g h;");
        setIs("h by one up", d, d.names(7, true, 3, false), 1, 1, 128);
        d = Check.open("name a;name b off cost 99;name c;name d;name e;name f;name g;name h off cost 99; "
                + "sort 1 order a c d e f g h b;", "points 0 0 0 0 0 0 0 1;");
        // only the last of eight has points
        setIs("b by two up", d, d.names(1, true, 1, false), 2, 198, 130);
    }

    private static void atMostSoManyVoters() {
        Doc.says("Of voters: at most so many (0 to 5):");
        for (int ahead = 0; ahead <= 6; ahead++) {
            DoorList d = Check.open("name a; name b; sort " + ahead + " order a b; sort 0 out 99 order b a; ties b a;");
            for (int most = 0; most <= 5; most++) {
                int got = d.people(1, true, 4, most, false);
                Check.due("b by at most " + most + " of " + ahead, got, most >= ahead ? ahead : -1);
                Check.due("its status", d.status(), most >= ahead ? 0 : 9);
            }
            for (int most : new int[] {-1, 6, MIN, MAX}) {
                Check.refused("at most " + most, d, d.people(1, true, 4, most, false), 5);
            }
        }
    }

    private static void onlyThoseThatAre() {
        Doc.says("rows of how many of each SORT are changed (IN those that are out, OUT those that are IN; of one SORT all go "
                + "one way),");
        DoorList d = Check.open("name a; name b; sort 5 order a b; sort 1 out 2 order b a; sort 0 out 1 order b a; ties b a;");
        rowIs("two and one that are out, one that is in", d, d.people(1, true, 12, 5, false), 4, 4, -1, 2, 1);
        Check.refused("three are out in all", d, d.people(1, true, 4, 5, false), 9);
        rowIs("four that are in", d, d.people(1, true, 8, 5, false), 4, 4, -4, 0, 0);
        d.voters(0, 0, 0);
        Check.refused("none of them is in", d, d.people(0, true, 8, 0, false), 9);
        rowIs("a by the one of b", d, d.people(0, false, 8, 5, false), 0, 0, 0, 0, 0);
    }

    private static void lesserChangeFirst() {
        Doc.says("the lesser change of SORT 0 first (IN ahead of OUT, if of one size), then of SORT 1, and so on.");
        String three = "name a; name b; sort 0 out 9 order b a; sort 0 out 9 order b a; sort 0 out 9 order b a; "
                + "sort 2 order a b; ties b a;";
        DoorList d = Check.open(three);
        rowIs("the lesser of sort 0, of sort 1, then sort 2", d, d.people(1, true, 4, 5, false), 2, 2, 0, 0, 2, 0);
        d.voters(2, 0, 1);
        rowIs("one of sort 1", d, d.people(1, true, 4, 5, false), 2, 2, 0, 1, 1, 0);
        d.voters(2, 0, 0);
        rowIs("two of sort 1", d, d.people(1, true, 4, 5, false), 2, 2, 0, 2, 0, 0);
        d.voters(1, 0, 1);
        rowIs("one of sort 0", d, d.people(1, true, 4, 5, false), 2, 2, 1, 1, 0, 0);
        d.voters(1, 0, 0);
        rowIs("two of sort 0", d, d.people(1, true, 4, 5, false), 2, 2, 2, 0, 0, 0);
        rowIs("sort 3 goes out, sort 0 stays", d, d.people(1, true, 12, 5, false), 2, 2, 0, 0, 0, -2);
    }

    private static void inAheadOfOut() {
        // none has 51 of a hundred, so all stay, and x has all third places; one of sort 0 in: a has 51, one out: b has
        DoorList d = Check.open("name x; name a; name b; sort 3 out 1 order a b x; sort 3 cost 9 order b a x; ties x a b;",
                "bar 51; points 0 0 1;");
        Check.given("x", d, d.wins(), 0);
        rowIs("not x: in ahead of out", d, d.people(0, false, 12, 5, false), 1, 1, 1, 0);
        rowIs("not x, cheapest", d, d.people(0, false, 12, 5, true), 1, 1, 1, 0);
        rowIs("not x by out", d, d.people(0, false, 8, 5, false), 1, 1, -1, 0);
        d.voters(0, 3, 0);
        rowIs("none is out", d, d.people(0, false, 12, 5, false), 1, 1, -1, 0);
        // the size counts ahead of the way: one out of sort 0 ahead of two in
        DoorList e = Check.open("name a; name b; sort 3 out 3 order a b; sort 3 out 3 order b a; ties a b;", "bar 60; first;");
        rowIs("b", e, e.people(1, true, 12, 5, false), 1, 1, 0, 1);
        rowIs("b by out", e, e.people(1, true, 8, 5, false), 1, 1, -1, 0);
        // c is out, b has four. One of b out: b is out, c has three of five. One of a out: a is out, c has three too
        DoorList f = Check.open("name a; name b; name c; sort 2 out 1 order b c a; sort 2 order a c b; sort 2 order c b a; "
                + "ties b a c;", "runs;");
        Check.given("b", f, f.wins(), 1);
        rowIs("not b: sort 0 stays", f, f.people(1, false, 12, 5, false), 1, 1, 0, -1, 0);
        // one each: c by ties. One of a in: a alone has 50 of a hundred
        DoorList g = Check.open("name a; name b; name c; sort 1 out 1 order a b c; sort 1 order b a c; sort 1 order c a b; "
                + "ties c b a;", "bar 33; bar 50; first;");
        Check.given("c", g, g.wins(), 2);
        rowIs("a", g, g.people(0, true, 12, 5, false), 1, 1, 1, 0, 0);
    }

    private static void cheapest() {
        Doc.says("CHEAPEST: likewise the least COST ahead of the least number.");
        DoorList d = Check.open("name a; name b; sort 3 cost 5 order a b; sort 0 out 9 cost 1 order b a; ties b a;",
                "first;");
        rowIs("b by fewest, the cheapest of three", d, d.people(1, true, 12, 5, false), 3, 3, 0, 3);
        d = Check.open("name a; name b; name c; sort 3 cost 4 order a b c; sort 2 order b c a; sort 0 out 9 cost 1 order c b a; "
                + "ties b c a;");
        rowIs("b by one out", d, d.people(1, true, 12, 5, false), 1, 4, -1, 0, 0);
        rowIs("c by three in", d, d.people(2, true, 4, 5, true), 3, 3, 0, 0, 3);
        rowIs("c, fewest", d, d.people(2, true, 12, 5, false), 3, 3, 0, 0, 3);
        DoorList e = Check.open("name x; name a cost 9; name b off; name c off; sort 1 order b a x c; sort 1 order c a x b; "
                + "sort 3 order a x b c; sort 4 order x a b c; ties a x b c;");
        setIs("x: fewest", e, e.names(0, true, 3, false), 1, 9, 2);
        setIs("x: cheapest", e, e.names(0, true, 3, true), 2, 2, 12);
        // as dear: the lesser number counts
        e = Check.open("name x; name a cost 2; name b off; name c off; sort 1 order b a x c; sort 1 order c a x b; "
                + "sort 3 order a x b c; sort 4 order x a b c; ties a x b c;");
        setIs("x: as dear", e, e.names(0, true, 3, true), 1, 2, 2);
        // what costs nothing is not changed without need
        e = Check.open("name x cost 0; name a cost 0; name b off cost 0; sort 1 cost 0 out 5 order x a b;");
        setIs("x as it is", e, e.names(0, true, 3, true), 0, 0, 0);
        rowIs("x as it is", e, e.people(0, true, 12, 5, true), 0, 0, 0);
        // more voters that cost nothing ahead of fewer that cost
        DoorList f = Check.open("name a; name b; sort 3 cost 3 order a b; sort 0 out 5 cost 0 order b a; ties b a;", "first;");
        rowIs("b: three for nothing", f, f.people(1, true, 12, 5, true), 3, 0, 0, 3);
        f.voters(1, 0, 2);
        rowIs("b: two for nothing", f, f.people(1, true, 12, 5, true), 3, 3, -1, 2);
        DoorList g = Check.open("name a; name b; sort 5 cost 4 order a b; sort 0 out 5 cost 1 order a b; "
                + "sort 4 cost 99 order b a; ties b a;", "points 0 0 1; bar 50; runs;");
        Check.given("a", g, g.wins(), 0);
        rowIs("b by one", g, g.people(1, true, 12, 5, true), 1, 4, -1, 0, 0);
    }

    private static void safe() {
        Doc.says("SAFE is the NAME that WINS by so many CHANGES of kinds: the FEWEST by which it does not WIN, less one;");
        for (int ahead = 0; ahead <= 4; ahead++) {
            DoorList d = Check.open("name a; name b; sort " + (10 + ahead) + " order a b; sort 10 out 99 order b a; ties a b;");
            Check.given("by in, ahead by " + ahead, d, d.safe(4), ahead);
            Check.given("by out", d, d.safe(8), ahead);
            Check.given("by both", d, d.safe(12), ahead);
        }
        DoorList d = Check.open("name a; name b; name c off; name d off; sort 4 order a b c d; sort 1 order c a b d; "
                + "sort 1 order d a b c; sort 4 order b a c d; ties a b c d;");
        Check.given("by down: a itself", d, d.safe(2), 0);
        Check.given("by up: with both 4 : 4, a by ties", d, d.safe(1), 8);
        d.voters(3, 5, 0);
        Check.given("by up: with both 4 : 5", d, d.safe(1), 1);
        d.voters(0, 5, 0);
        d.voters(3, 6, 0);
        Check.given("a has 7, b 6; with c 6 : 6, with both 5 : 6", d, d.safe(1), 1);
        // the fewest count, not the cheapest: a itself for 9, or b and c for nothing; one voter for 9, or two for nothing
        DoorList e = Check.open("name x; name a cost 9; name b off cost 0; name c off cost 0; sort 1 order b a x c; "
                + "sort 1 order c a x b; sort 3 order a x b c; sort 4 order x a b c; ties a x b c;");
        Check.given("a", e, e.wins(), 1);
        Check.given("safe by names", e, e.safe(3), 0);
        setIs("not a, cheapest", e, e.names(1, false, 3, true), 2, 0, 12);
        DoorList f = Check.open("name a; name b; sort 3 cost 9 order a b; sort 2 order b a; sort 0 out 9 cost 0 order b a; "
                + "ties a b;", "points 2;");
        Check.given("safe by voters", f, f.safe(12), 1);
        f = Check.open("name a; name b; name c; sort 2 cost 9 order a b c; sort 2 order b a c; sort 0 out 1 order a b c; "
                + "sort 0 out 9 cost 0 order c a b; ties a b c;");
        Check.given("one out for 9", f, f.safe(12), 0);
        rowIs("not a, cheapest: three in for nothing", f, f.people(0, false, 12, 5, true), 3, 0, 0, 0, 0, 3);
    }

    private static void safeIfThereAreNone() {
        Doc.says("8 (of names), 5 (of voters), if there are none.");
        DoorList d = Check.open("name a; name b off; sort 9 out 99 order a b;");
        Check.given("none may be put up to harm", d, d.safe(1), 8);
        Check.given("one may be taken down", d, d.safe(2), 0);
        Check.given("voters do nothing", d, d.safe(4), 5);
        Check.given("nor out", d, d.safe(8), 5);
        Check.given("nor both", d, d.safe(12), 5);
        // the fewest would be 6, 5, 4
        for (int ahead = 3; ahead <= 6; ahead++) {
            DoorList e = Check.open("name a; name b; sort " + ahead + " order a b; sort 0 out 99 order b a; ties a b;");
            Check.given("ahead by " + ahead, e, e.safe(4), Math.min(ahead, 5));
        }
        DoorList f = Check.open(EIGHT.replace(";", " off;").replaceFirst("a off", "a") + "sort 1 order a b c d e f g h;");
        Check.given("seven more do nothing", f, f.safe(1), 8);
    }

    private static void names() {
        Doc.says("FEWEST (or CHEAPEST) CHANGES of names (kinds 1 to 3) so that a NAME WINS (or does not): how many (2; 5; 9: "
                + "none do).");
        Doc.says("9 it can't be.");
        DoorList d = Check.open("name a; name b off; sort 1 order a b;");
        for (int name : new int[] {-1, 2, 8, MIN, MAX}) {
            Check.refused("name " + name, d, d.names(name, true, 3, false), 2);
            Check.refused("2 ahead of 5", d, d.names(name, true, 0, false), 2);
        }
        for (int kinds : new int[] {0, -1, 4, 5, 7, 8, 12, 15, MIN, MAX}) {
            Check.refused("kinds " + kinds, d, d.names(0, true, kinds, false), 5);
            Check.refused("kinds " + kinds + ", 5 ahead of 9", d, d.names(1, true, kinds, true), 5);
        }
        Check.refused("none do: a beats b", d, d.names(1, true, 1, false), 9);
        Check.refused("none do: a wins", d, d.names(0, false, 1, true), 9);
        Check.refused("nothing was found", d, d.found(0), 8);
        setIs("b by both", d, d.names(1, true, 3, false), 2, 2, 3);
        Check.given("nothing is changed", d, d.many(4), 1);
    }

    private static void people() {
        Doc.says("FEWEST (or CHEAPEST) of voters (kinds 4, 8, 12), at most so many: how many (2; 5; 7: more than 12 SORTS; 9: "
                + "none do).");
        DoorList d = Check.open("name a; name b; sort 1 out 1 order a b;");
        for (int name : new int[] {-1, 2, 8, MIN, MAX}) {
            Check.refused("name " + name, d, d.people(name, true, 4, 5, false), 2);
            Check.refused("2 ahead of 5", d, d.people(name, true, 3, 6, false), 2);
        }
        for (int kinds : new int[] {0, -1, 1, 2, 3, 5, 6, 7, 9, 10, 11, 13, 14, 15, 16, 20, MIN, MAX}) {
            Check.refused("kinds " + kinds, d, d.people(0, true, kinds, 5, false), 5);
        }
        for (int most : new int[] {-1, 6, MIN, MAX}) {
            Check.refused("at most " + most, d, d.people(0, true, 12, most, false), 5);
            Check.refused("5 ahead of 9", d, d.people(1, true, 12, most, false), 5);
        }
        Check.refused("none do", d, d.people(1, true, 12, 5, false), 9);
        Check.refused("none do, cheapest", d, d.people(1, true, 12, 5, true), 9);
        Check.refused("nothing was found", d, d.found(0), 8);
        rowIs("a as it is", d, d.people(0, true, 12, 0, false), 0, 0, 0);
        Check.given("nothing is changed", d, d.sort(0, 0), 1);
        Check.given("nobody came", d, d.sort(0, 1), 1);
        DoorList e = Check.open("name a; name b;");
        Check.given("without sorts", e, e.people(0, true, 12, 5, false), 0);
        Check.refused("no sort moved", e, e.moved(0), 8);
        Check.refused("none do without sorts", e, e.people(1, true, 12, 5, false), 9);
    }

    private static void peopleTwelveSorts() {
        String eleven = "name a; name b; sort 3 order a b;" + " sort 0 order b a;".repeat(10);
        DoorList d = Check.open(eleven + " sort 0 out 5 order b a;");
        rowIs("12 sorts", d, d.people(1, true, 12, 5, false), 4, 4, 0, 0, 0, 0, 0, 0, 0, 0, 0, 0, 0, 4);
        Check.given("12 sorts, safe", d, d.safe(4), 3);
        d = Check.open(eleven + " sort 0 out 5 order b a; sort 0 order a b;");
        Check.refused("13 sorts", d, d.people(1, true, 12, 5, false), 7);
        Check.refused("13 sorts, at most 0", d, d.people(0, true, 4, 0, true), 7);
        Check.refused("5 ahead of 7", d, d.people(1, true, 12, 6, false), 5);
        Check.refused("5 ahead of 7", d, d.people(1, true, 3, 5, false), 5);
        Check.refused("2 ahead of 7", d, d.people(2, true, 12, 5, false), 2);
        setIs("names do not ask for sorts", d, d.names(1, true, 2, false), 1, 1, 1);
    }

    private static void found() {
        Doc.says("Of names() or people() latest with STATUS 0, what 0: the COST, 1: the set of names (8: of people() there is "
                + "none) (5; 8: there was none).");
        DoorList d = Check.open("name a cost 7; name b; sort 2 cost 3 order a b; sort 1 out 9 cost 2 order b a; ties b a;");
        for (int what : new int[] {-1, 2, MIN, MAX}) {
            Check.refused("5 ahead of 8", d, d.found(what), 5);
        }
        Check.refused("there was none", d, d.found(0), 8);
        Check.refused("there was none", d, d.found(1), 8);
        d.names(0, true, 4, false);
        d.people(2, true, 4, 5, false);
        d.safe(3);
        d.safe(12);
        Check.refused("none with STATUS 0", d, d.found(0), 8);
        setIs("b by names", d, d.names(1, true, 2, false), 1, 7, 1);
        Check.given("people", d, d.people(1, true, 4, 5, false), 1);
        Check.given("the cost of people()", d, d.found(0), 2);
        Check.refused("no set of people()", d, d.found(1), 8);
        Check.refused("5 of people() too", d, d.found(2), 5);
        Check.refused("names() that does nothing", d, d.names(1, true, 1, false), 9);
        Check.given("the cost stays", d, d.found(0), 2);
        setIs("names() again", d, d.names(0, false, 3, false), 1, 7, 1);
        Check.refused("people() that does nothing", d, d.people(1, true, 12, 0, false), 9);
        Check.given("the set stays", d, d.found(1), 1);
        Check.refused("5 of names() too", d, d.found(-1), 5);
    }

    private static void moved() {
        Doc.says("How many of a SORT come IN (below 0: go OUT), by people() latest with STATUS 0, if no names() was behind it; "
                + "STATUS tells NONE from -1 (8: there was none, no such SORT then).");
        DoorList d = Check.open("name a; name b; sort 2 order a b; sort 0 order b a; ties b a; sort 1 order a b;");
        Check.refused("there was none", d, d.moved(0), 8);
        d.people(1, true, 4, 5, false);
        Check.due("none do", d.status(), 9);
        Check.refused("none with STATUS 0", d, d.moved(0), 8);
        rowIs("b", d, d.people(1, true, 8, 5, false), 3, 3, -2, 0, -1);
        d.voters(2, 0, 0);
        d.voters(0, 1, 0);
        rowIs("-1 is no NONE", d, d.people(1, true, 8, 5, false), 1, 1, -1, 0, 0);
        for (int sort : new int[] {-1, 3, 12, 19, 20, MIN, MAX}) {
            Check.refused("moved " + sort, d, d.moved(sort), 8);
        }
        Check.hall(d, "name a; sort 1 order a; sort 1 order a; sort 1 order a; sort 1 order a;");
        Check.given("the sorts that were then", d, d.moved(2), 0);
        Check.refused("not one of the new hall", d, d.moved(3), 8);
        Check.given("names()", d, d.names(0, true, 3, false), 0);
        Check.refused("names() was behind it", d, d.moved(0), 8);
        Check.given("people() again", d, d.people(0, true, 4, 5, false), 0);
        Check.given("moved again", d, d.moved(3), 0);
        DoorList e = Check.open("name a; name b; sort 5 order a b; sort 0 out 5 order b a; ties b a;");
        rowIs("5 in", e, e.people(1, true, 4, 5, false), 5, 5, 0, 5);
        rowIs("5 out", e, e.people(1, true, 8, 5, false), 5, 5, -5, 0);
    }

    private static void safeStatuses() {
        Doc.says("SAFE by kinds (1 to 3; 4, 8, 12) (5; 7: more than 12 SORTS, of voters; 8: none WINS).");
        String twelve = "name a;" + "sort 1 order a;".repeat(12);
        DoorList d = Check.open(twelve);
        Check.given("12 sorts", d, d.safe(4), 5);
        d = Check.open(twelve + "sort 1 order a;");
        for (int kinds : new int[] {4, 8, 12}) {
            Check.refused("13 sorts", d, d.safe(kinds), 7);
        }
        for (int kinds = 1; kinds <= 3; kinds++) {
            Check.given("of names 13 sorts do", d, d.safe(kinds), kinds == 1 ? 8 : 0);
        }
        d.stand(0, false);
        Check.refused("7 ahead of 8", d, d.safe(4), 7);
        Check.refused("none wins", d, d.safe(1), 8);
        for (int kinds : new int[] {0, -1, 5, 6, 7, 9, 10, 11, 13, 14, 15, 16, MIN, MAX}) {
            Check.refused("5 ahead of 7 and 8: " + kinds, d, d.safe(kinds), 5);
        }
        DoorList e = new DoorList();
        Check.refused("no hall", e, e.safe(1), 8);
        Check.refused("no hall", e, e.safe(12), 8);
    }
}
