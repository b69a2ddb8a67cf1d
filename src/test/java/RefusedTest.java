/**
 * Each way in which a call is refused, promise by promise: it gives NONE or false, has its STATUS, and leaves all as
 * it was (see Twin).
 */
public final class RefusedTest {
    private static final int MIN = Integer.MIN_VALUE;
    private static final int MAX = Integer.MAX_VALUE;
    private static final String BAD_HALL = "name q; name r off cost 9; sort 7 out 8 cost 9 order r q; ties r q; sort 100";
    private static final String BAD_RULE = "points 9 8 7; bar 50; near 9;";
    private static final String BAD_ACTS = "spend 999; down a; loop 9; out 0 9;";

    public static void main(String[] args) {
        statuses();
        richIsRich();
        trays();
        texts();
        halls();
        countings();
        tolds();
        changes();
        sides();
        chances();
        actsAndMarks();
        bare();
        full();
        thirteenSorts();
        noneStands();
        feedTooMany();
        Check.end("RefusedTest");
    }

    private static void statuses() {
        Doc.says("STATUS of a call is the first of these that holds: 1 no such TRAY (or sort). 2 no such NAME, SORT; a set with "
                + "others. 3 the TRAY is MISSING. 4 a place that the TRAY has not, or too few numbers. 5 a number that can't be. "
                + "6 below 0 (a TRAY's length). 7 one too many; too many voters. 8 there is none. 9 it can't be. 10 a FAULT. 11 "
                + "TRAYS of unlike sorts. 0 else.");
        Doc.says("A call with another STATUS than 0 gives NONE, or false, and changes nothing but STATUS (but hall(), rule(), acts() "
                + "with 10 the tape, and what fault() tells).");
        DoorList d = new DoorList();
        rich(d);
        int[] got = new int[12];
        d.read(4, 0);
        got[d.status()]++;
        d.name(9, 0);
        got[d.status()]++;
        d.read(3, 0);
        got[d.status()]++;
        d.read(0, 9);
        got[d.status()]++;
        d.many(9);
        got[d.status()]++;
        d.tray(0, 0, -1);
        got[d.status()]++;
        d.mark();
        d.mark();
        d.mark();
        got[d.status()]++;
        d.moved(9);
        got[d.status()]++;
        d.firsts(2);
        got[d.status()]++;
        d.rule(1);
        got[d.status()]++;
        d.pour(0, 0, 1, 0, 0);
        got[d.status()]++;
        d.many(0);
        got[d.status()]++;
        for (int status = 0; status < 12; status++) {
            Check.due("status " + status, got[status], 1);
        }
    }

    /** There is something of all that a refused call could change. */
    private static void rich(DoorList d) {
        Check.hall(d, "name old; name older; sort 4 order old older; sort 2 out 3 order older old;");
        Check.rule(d, "runs; first;");
        d.mark();
        Check.hall(d, "name a cost 2; name b; name c off cost 3; sort 3 out 2 order a b c; sort 2 cost 2 order b a c; "
                + "sort 1 out 4 cost 5 order c b a; ties b a c;");
        Check.rule(d, "points 2 1; first;");
        Check.acts(d, "spend 9; up c; in 0 1; until c; out 1 1; end;");
        d.act();
        d.stand(2, false);
        d.voters(0, 3, 2);
        d.voters(1, 2, 1);
        d.tray(0, 3, 4);
        d.write(0, 0, 1);
        d.write(0, 1, 9);
        d.write(0, 2, 2);
        d.write(0, 3, 70);
        d.tray(1, 0, 3);
        d.write(1, 0, 4);
        d.write(1, 1, 8);
        d.write(1, 2, 16);
        d.tray(2, 3, 0);
        d.game(0, 2, 0, 1);
        d.seldom(0, 2);
        d.people(1, true, 12, 5, false);
        Check.rule(d, "points 2 1; near");
        Check.feedText(d, "name q; name r;");
    }

    private static void richByNames(DoorList d) {
        rich(d);
        d.names(2, true, 3, true);
    }

    private static void richIsRich() {
        DoorList d = new DoorList();
        rich(d);
        Check.due("a fault", d.fault(0) * 100 + d.fault(1), 216);
        Check.due("a tape", d.feed(0, 0, 0, 0, 0), 40);
        Check.given("names", d, d.many(0), 3);
        Check.given("who stands", d, d.many(4), 3);
        Check.given("clauses", d, d.many(3), 2);
        Check.given("found", d, d.found(0) >= 0 ? 1 : 0, 1);
        Check.given("moved", d, d.moved(2) * 0, 0);
        Check.given("opening", d, d.opening() * 0, 0);
        Check.given("acted", d, d.acted(0) > 0 ? 1 : 0, 1);
        Check.due("a fraction", d.bottom() > 1, true);
        Check.given("a mark", d, d.back(), 0);
        DoorList e = new DoorList();
        richByNames(e);
        Check.given("a set", e, e.found(1) > 0 ? 1 : 0, 1);
    }

    private static void refused(String what, Twin.Asked call, int status) {
        Twin.refused(what, RefusedTest::rich, call, status);
        Twin.refused(what + " behind names()", RefusedTest::richByNames, call, status);
    }

    private static void denied(String what, Twin.Asked call, int status) {
        Twin.denied(what, RefusedTest::rich, call, status);
        Twin.denied(what + " behind names()", RefusedTest::richByNames, call, status);
    }

    private static long truth(boolean is) {
        return is ? 1 : 0;
    }

    private static void trays() {
        for (int tray : new int[] {-1, 4, MAX}) {
            denied("tray " + tray, d -> truth(d.tray(tray, 0, 1)), 1);
            denied("write to " + tray, d -> truth(d.write(tray, 0, 1)), 1);
            refused("read of " + tray, d -> d.read(tray, 0), 1);
            denied("pour from " + tray, d -> truth(d.pour(tray, 0, 0, 0, 0)), 1);
            denied("pour to " + tray, d -> truth(d.pour(0, 0, tray, 0, 0)), 1);
        }
        denied("a tray of sort -1", d -> truth(d.tray(0, -1, 1)), 1);
        denied("a tray of sort 4", d -> truth(d.tray(0, 4, 1)), 1);
        denied("a tray of 61", d -> truth(d.tray(0, 0, 61)), 5);
        denied("a tray of -1", d -> truth(d.tray(0, 0, -1)), 6);
        denied("write to one missing", d -> truth(d.write(3, 0, 1)), 3);
        refused("read of one missing", d -> d.read(3, 0), 3);
        denied("pour from one missing", d -> truth(d.pour(3, 0, 0, 0, 0)), 3);
        denied("pour to one missing", d -> truth(d.pour(0, 0, 3, 0, 0)), 3);
        for (int place : new int[] {-1, 4, MIN, MAX}) {
            denied("write to place " + place, d -> truth(d.write(0, place, 1)), 4);
            refused("read of place " + place, d -> d.read(0, place), 4);
            denied("pour from place " + place, d -> truth(d.pour(0, place, 0, 0, 1)), 4);
            denied("pour to place " + place, d -> truth(d.pour(0, 0, 0, place, 1)), 4);
        }
        denied("pour of unlike sorts", d -> truth(d.pour(0, 0, 1, 0, 1)), 11);
        denied("pour of -1", d -> truth(d.pour(0, 0, 0, 1, -1)), 6);
        denied("pour of too many", d -> truth(d.pour(0, 0, 0, 1, 4)), 4);
        denied("pour to one too short", d -> truth(d.pour(0, 0, 2, 0, 1)), 4);
    }

    private static void texts() {
        for (int n : new int[] {-1, 21, 701, MIN, MAX}) {
            refused("hall " + n, d -> d.hall(n), 5);
            refused("rule " + n, d -> d.rule(n), 5);
            refused("acts " + n, d -> d.acts(n), 5);
        }
        Twin.Made made = RefusedTest::rich;
        // the tape has 20 bytes already: 'name q; name r;' and blanks
        Twin.faulty("a hall", made, d -> hallBehind(d, BAD_HALL), 3, 25);
        Twin.faulty("a hall", made, d -> d.hall(14), 2, 14);
        Twin.faulty("a rule", made, d -> d.rule(20), 2, 0);
        Twin.faulty("acts", made, d -> d.acts(20), 2, 0);
        Twin.Made empty = d -> {
            rich(d);
            d.hall(0);
            d.back();
            d.mark();
        };
        Twin.faulty("a hall", empty, d -> Check.hall(d, BAD_HALL), 4, BAD_HALL.length() - 3);
        Twin.faulty("a rule", empty, d -> Check.rule(d, BAD_RULE), 4, BAD_RULE.length() - 2);
        Twin.faulty("acts", empty, d -> Check.acts(d, BAD_ACTS), 2, BAD_ACTS.length());
    }

    private static long hallBehind(DoorList d, String text) {
        Check.feedText(d, text);
        return d.hall(20 + text.length());
    }

    private static void halls() {
        for (int what : new int[] {-1, 5, MAX}) {
            refused("many " + what, d -> d.many(what), 5);
        }
        for (int none : new int[] {-1, 3, MIN, MAX}) {
            refused("name " + none, d -> d.name(none, 0), 2);
            refused("sort " + none, d -> d.sort(none, 0), 2);
            refused("order of " + none, d -> d.order(none, 0), 2);
            denied("stand " + none, d -> truth(d.stand(none, true)), 2);
            denied("stand " + none, d -> truth(d.stand(none, false)), 2);
            denied("voters of " + none, d -> truth(d.voters(none, 1, 1)), 2);
            refused("name 0, " + none, d -> d.name(0, none), 5);
            refused("sort 0, " + none, d -> d.sort(0, none), 5);
            refused("order 0, " + none, d -> d.order(0, none), 5);
        }
        for (int many : new int[] {-1, 100, MIN, MAX}) {
            denied("in " + many, d -> truth(d.voters(0, many, 7)), 5);
            denied("out " + many, d -> truth(d.voters(0, 7, many)), 5);
        }
    }

    private static void countings() {
        for (int none : new int[] {-1, 3, MAX}) {
            refused("firsts " + none, d -> d.firsts(none), 2);
            refused("beats " + none, d -> d.beats(none, 0), 2);
            refused("beats 0, " + none, d -> d.beats(0, none), 2);
            refused("left " + none, d -> d.left(none), 5);
        }
        refused("firsts of one that does not stand", d -> d.firsts(2), 9);
        refused("beats one and the same", d -> d.beats(1, 1), 2);
    }

    private static void tolds() {
        refused("told by no tray", d -> d.told(4, 0), 1);
        refused("cost by no tray", d -> d.cost(-1, 0), 1);
        refused("told by one missing", d -> d.told(3, 0), 3);
        refused("cost by one missing", d -> d.cost(3, 0), 3);
        for (int many : new int[] {-1, 21, MIN, MAX}) {
            refused("told " + many, d -> d.told(0, many), 5);
            refused("cost " + many, d -> d.cost(0, many), 5);
        }
        refused("told too few", d -> d.told(0, 5), 4);
        refused("cost of too few", d -> d.cost(0, 5), 4);
        // a is down, c can't be taken down; 70 names none
        refused("told one that can't be", d -> d.told(0, 2), 9);
        refused("cost of one that can't be", d -> d.cost(0, 2), 9);
        refused("told one that names none", d -> d.told(0, 4), 5);
        refused("cost of one that names none", d -> d.cost(0, 4), 5);
        Twin.refused("told that none stands", d -> {
            rich(d);
            d.stand(1, false);
        }, d -> d.told(0, 1), 8);
    }

    private static void changes() {
        for (int none : new int[] {-1, 3, MIN, MAX}) {
            refused("names of " + none, d -> d.names(none, true, 3, false), 2);
            refused("people of " + none, d -> d.people(none, true, 12, 5, false), 2);
        }
        for (int kinds : new int[] {-1, 0, 5, 15, 16, MAX}) {
            refused("names by " + kinds, d -> d.names(0, true, kinds, false), 5);
            refused("people by " + kinds, d -> d.people(0, true, kinds, 5, false), 5);
            refused("safe by " + kinds, d -> d.safe(kinds), 5);
        }
        refused("names by 12", d -> d.names(0, true, 12, false), 5);
        refused("people by 3", d -> d.people(0, true, 3, 5, false), 5);
        for (int most : new int[] {-1, 6, MIN, MAX}) {
            refused("people, at most " + most, d -> d.people(0, true, 12, most, false), 5);
        }
        for (boolean cheapest : new boolean[] {false, true}) {
            refused("names that none do", d -> d.names(2, true, 2, cheapest), 9);
            refused("people that none do", d -> d.people(2, true, 12, 5, cheapest), 9);
        }
        for (int what : new int[] {-1, 2, MAX}) {
            refused("found " + what, d -> d.found(what), 5);
            refused("moved " + (what + 1) * 20, d -> d.moved((what + 1) * 20 + 3), 8);
        }
        refused("moved -1", d -> d.moved(-1), 8);
        Twin.refused("found(1) of people()", RefusedTest::rich, d -> d.found(1), 8);
        Twin.refused("moved(0) of names()", RefusedTest::richByNames, d -> d.moved(0), 8);
    }

    private static void sides() {
        for (int set : new int[] {8, 15, -1, MIN}) {
            refused("parted " + set, d -> d.parted(set), 2);
            refused("game with mine " + set, d -> d.game(0, set, 0, 1), 2);
            refused("game with others " + set, d -> d.game(0, 0, set, 1), 2);
        }
        for (int none : new int[] {-1, 3, MAX}) {
            refused("parting " + none, d -> d.parting(none), 2);
            refused("alike " + none, d -> d.alike(none, 0), 2);
            refused("alike 0, " + none, d -> d.alike(0, none), 2);
            refused("game of " + none, d -> d.game(none, 1, 2, 1), 2);
        }
        refused("parting of one that does not stand", d -> d.parting(2), 9);
        refused("alike one and the same", d -> d.alike(2, 2), 2);
        refused("game with a common name", d -> d.game(0, 3, 6, 1), 2);
        for (int turns : new int[] {-1, 0, 4, MIN, MAX}) {
            refused("game of " + turns + " turns", d -> d.game(0, 1, 2, turns), 5);
        }
    }

    private static void chances() {
        denied("doubt by no tray", d -> truth(d.doubt(4, 0)), 1);
        denied("doubt of no name", d -> truth(d.doubt(1, 3)), 2);
        denied("doubt by one missing", d -> truth(d.doubt(3, 0)), 3);
        denied("doubt by too few", d -> truth(d.doubt(2, 0)), 4);
        Twin.denied("doubt by 17", d -> {
            rich(d);
            d.write(1, 2, 17);
        }, d -> truth(d.doubt(1, 0)), 5);
        Twin.denied("doubt by -1", d -> {
            rich(d);
            d.write(1, 0, -1);
        }, d -> truth(d.doubt(1, 0)), 5);
        Twin.denied("doubt of 13", d -> {
            rich(d);
            d.voters(0, 10, 0);
        }, d -> truth(d.doubt(1, 0)), 7);
        denied("seldom of no name", d -> truth(d.seldom(3, 0)), 2);
        for (int many : new int[] {-1, 7, 13, MIN, MAX}) {
            denied("seldom " + many, d -> truth(d.seldom(0, many)), 5);
        }
        Twin.denied("seldom of 100", d -> {
            rich(d);
            d.voters(0, 97, 0);
        }, d -> truth(d.seldom(0, 1)), 7);
    }

    private static void actsAndMarks() {
        for (int what : new int[] {-1, 4, MIN, MAX}) {
            refused("acted " + what, d -> d.acted(what), 5);
        }
        Twin.refused("a fourth mark", d -> {
            rich(d);
            d.mark();
            d.stand(0, false);
            d.mark();
            d.rule(0);
        }, d -> d.mark(), 7);
        Twin.refused("back without a mark", d -> {
            rich(d);
            d.back();
            d.stand(0, false);
        }, d -> d.back(), 8);
    }

    /** A new object refuses likewise, and stays as new. */
    private static void bare() {
        Twin.Made made = d -> {
        };
        Twin.refused("wins", made, d -> d.wins(), 8);
        Twin.refused("found", made, d -> d.found(0), 8);
        Twin.refused("found", made, d -> d.found(1), 8);
        Twin.refused("moved", made, d -> d.moved(0), 8);
        Twin.refused("safe", made, d -> d.safe(1), 8);
        Twin.refused("safe", made, d -> d.safe(12), 8);
        Twin.refused("parted", made, d -> d.parted(0), 8);
        Twin.refused("cousins", made, d -> d.cousins(), 8);
        Twin.refused("opening", made, d -> d.opening(), 8);
        Twin.refused("acted", made, d -> d.acted(0), 8);
        Twin.refused("back", made, d -> d.back(), 8);
        Twin.refused("names", made, d -> d.names(0, true, 1, true), 2);
        Twin.refused("people", made, d -> d.people(0, true, 4, 1, true), 2);
        Twin.refused("game", made, d -> d.game(0, 0, 0, 1), 2);
        Twin.refused("hall", made, d -> d.hall(1), 5);
        Twin.refused("rule", made, d -> d.rule(1), 5);
        Twin.refused("acts", made, d -> d.acts(1), 5);
        Twin.denied("doubt", made, d -> truth(d.doubt(0, 0)), 2);
        Twin.denied("seldom", made, d -> truth(d.seldom(0, 0)), 2);
        Twin.denied("stand", made, d -> truth(d.stand(0, true)), 2);
        Twin.denied("voters", made, d -> truth(d.voters(0, 0, 0)), 2);
    }

    private static void full() {
        Twin.Made made = d -> {
            rich(d);
            Check.hall(d, "");
            for (int i = 0; i < 35; i++) {
                Check.feedText(d, i == 0 ? "name z; name y off;" : " ");
            }
        };
        Twin.refused("701 of a full tape", made, d -> d.hall(701), 5);
        Twin.refused("201 of a full tape", made, d -> d.rule(201), 5);
        Twin.refused("301 of a full tape", made, d -> d.acts(301), 5);
        Twin.refused("many(5) beside a full tape", made, d -> d.many(5), 5);
    }

    private static void thirteenSorts() {
        Twin.Made made = d -> {
            rich(d);
            d.hall(0);
            Check.hall(d, "name a; name b;" + "sort 1 order a b;".repeat(13));
        };
        Twin.refused("people of 13 sorts", made, d -> d.people(0, false, 12, 5, false), 7);
        Twin.refused("safe of 13 sorts", made, d -> d.safe(8), 7);
        Twin.refused("parting of 13 sorts", made, d -> d.parting(0), 7);
        Twin.denied("seldom of 13 sorts", made, d -> truth(d.seldom(0, 1)), 7);
        Twin.denied("doubt of 13 voters", d -> {
            made.on(d);
            d.tray(0, 0, 13);
        }, d -> truth(d.doubt(0, 0)), 7);
    }

    private static void noneStands() {
        Twin.Made made = d -> {
            rich(d);
            d.stand(0, false);
            d.stand(1, false);
        };
        Twin.refused("wins", made, d -> d.wins(), 8);
        Twin.refused("cousins", made, d -> d.cousins(), 8);
        Twin.refused("safe of names", made, d -> d.safe(3), 8);
        Twin.refused("safe of voters", made, d -> d.safe(12), 8);
        Twin.refused("parted", made, d -> d.parted(1), 8);
        Twin.refused("told", made, d -> d.told(0, 0), 8);
        Twin.refused("people to win", made, d -> d.people(0, true, 12, 5, false), 9);
    }

    /** feed() has no STATUS, but one that is refused leaves the tape too. */
    private static void feedTooMany() {
        DoorList d = new DoorList();
        for (int i = 0; i < 35; i++) {
            Check.feedText(d, i == 34 ? "             name z;" : " ");
        }
        d.wins();
        for (int i = 0; i < 5; i++) {
            Check.due("feed", d.feed(0, 0, 0, 0, 0), -1);
            Check.due("no status", d.status(), 8);
        }
        Check.given("the text is as it was", d, d.hall(700), 1);
    }
}
