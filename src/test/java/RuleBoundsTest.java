/** The RULE's text, how its CLAUSES count, and promises 11 and 19 to 24 sentence by sentence, at their bounds. */
public final class RuleBoundsTest {
    private static final int MIN = Integer.MIN_VALUE;
    private static final int MAX = Integer.MAX_VALUE;
    private static final String EIGHT = "name a;name b;name c;name d;name e;name f;name g;name h;";

    public static void main(String[] args) {
        textOfTwoHundred();
        ruleStatuses();
        clauses();
        fourClauses();
        ruleFaults();
        whoWins();
        votesByWhatIsLeft();
        first();
        points();
        pointsAtMostEight();
        runs();
        runsByTies();
        pairs();
        near();
        bar();
        wins();
        firsts();
        beats();
        left();
        changesInATray();
        told();
        toldInThisOrder();
        cost();
        Check.end("RuleBoundsTest");
    }

    /** A text with a FAULT leaves the RULE ahead. */
    private static void faulty(String text, int kind, int place) {
        DoorList d = Check.open("name a; name b; sort 1 order a b;", "points 0 1; runs;");
        Check.fault("rule " + text, d, Check.rule(d, text), kind, place);
        Check.due("the tape is empty behind " + text, d.feed(0, 0, 0, 0, 0), 20);
        Check.given("the old rule stays", d, d.many(3), 2);
        Check.given("and counts", d, d.wins(), 1);
    }

    private static DoorList taken(String text, int clauses) {
        DoorList d = Check.open("name a; name b; name c; sort 3 order a b c; sort 2 order b c a; sort 2 order c b a;");
        Check.given("rule " + text, d, Check.rule(d, text), clauses);
        Check.given("clauses of " + text, d, d.many(3), clauses);
        Check.due("no fault of " + text, d.fault(0), 0);
        Check.due("no place of " + text, d.fault(1), -1);
        return d;
    }

    private static void leftBy(String hall, String rule, int... want) {
        DoorList d = Check.open(hall, rule);
        for (int i = 0; i < want.length; i++) {
            Check.given(rule + " behind " + i + " in " + hall, d, d.left(i), want[i]);
        }
    }

    private static void textOfTwoHundred() {
        Doc.says("A RULE is a TEXT of at most 200 bytes, of the same TOKENS (none of its key words is a NAME):");
        DoorList d = new DoorList();
        Check.feedText(d, "runs;" + " ".repeat(190) + "pairs;");
        Check.refused("201 bytes", d, d.rule(201), 5);
        Check.fault("200 bytes: the last WORD lacks its sign", d, d.rule(200), 2, 200);
        Check.feedText(d, "runs;" + " ".repeat(189) + "pairs;");
        Check.given("200 bytes", d, d.rule(200), 2);
        Check.feedText(d, "runs;" + " ".repeat(189) + "pairs;");
        Check.fault("199 bytes", d, d.rule(199), 2, 199);
        Check.feedText(d, " ".repeat(700));
        Check.refused("700 bytes", d, d.rule(700), 5);
        Check.given("200 blanks of them", d, d.rule(200), 0);
        for (int b = 0; b < 256; b++) {
            d = new DoorList();
            d.feed(b << 24, 0, 0, 0, 0);
            d.rule(1);
            boolean blank = b == 10 || b == 32;
            boolean begins = b >= 97 && b <= 122 || b >= 48 && b <= 57 || b == 59;
            Check.due("fault of byte " + b, d.fault(0), blank ? 0 : begins ? 2 : 1);
            Check.due("place of byte " + b, d.fault(1), blank ? -1 : 0);
        }
        for (String key : new String[] {"first", "points", "runs", "pairs", "near", "bar"}) {
            faulty("points " + key + ";", 2, 7);
            faulty("runs " + key + ";", 2, 5);
        }
        faulty("a;", 2, 0);
        faulty("runs a;", 2, 5);
        faulty("name a;", 2, 0);
    }

    private static void ruleStatuses() {
        Doc.says("Likewise the RULE: how many CLAUSES (5: above 200, too; 10).");
        DoorList d = Check.open("name a; name b; sort 2 order b a;", "runs; first;");
        Check.refused("1 of an empty tape", d, d.rule(1), 5);
        Check.feedText(d, "pairs;near 2;!!!!!!!");
        for (int n : new int[] {-1, 21, 200, 201, MIN, MAX}) {
            Check.refused("rule " + n, d, d.rule(n), 5);
        }
        Check.given("none of these changed it", d, d.many(3), 2);
        Check.given("the first 6 bytes", d, d.rule(6), 1);
        Check.refused("the rest is gone", d, d.rule(1), 5);
        Check.feedText(d, "pairs;near 2;!!!!!!!");
        Check.given("the first 13 bytes", d, d.rule(13), 2);
        // nothing of a RULE ahead is in the next one
        d = Check.open("name a; name b; name c; sort 3 order a b c; sort 2 order b c a; sort 2 order c b a;");
        for (String ahead : new String[] {"runs; runs; runs; runs;", "pairs;", "bar 99;", "points 0 9 9;", "near 3;"}) {
            Check.rule(d, ahead);
            Check.rule(d, "first;");
            Check.given("first behind " + ahead, d, d.left(1), 1);
            Check.rule(d, ahead);
            Check.rule(d, "points 0 1;");
            Check.given("points behind " + ahead, d, d.left(1), 2);
        }
        d = Check.open("name a; name b; sort 2 order b a;", "pairs;near 2;");
        Check.given("0 of an empty tape", d, d.rule(0), 0);
        Check.given("no clauses", d, d.many(3), 0);
        Check.given("the hall stays", d, d.many(0), 2);
        Check.given("by ties alone", d, d.wins(), 0);
    }

    private static void clauses() {
        Doc.says("RULE: {CLAUSE}. CLAUSE: first ; or points NUMBER {NUMBER} ; or runs ; or pairs ; or near NUMBER ; or bar "
                + "NUMBER ;");
        taken("", 0);
        taken("first;", 1);
        taken("points 1;", 1);
        taken("points 1 2 3 4 5 6 7 8;", 1);
        taken("runs;", 1);
        taken("pairs;", 1);
        taken("near 3;", 1);
        taken("bar 3;", 1);
        taken("\n first\n;points 1 2\n3 ;near 4;bar 5 ; \n", 4);
        for (String key : new String[] {"first", "runs", "pairs"}) {
            faulty(key, 2, key.length());
            faulty(key + " 1;", 2, key.length() + 1);
        }
        for (String key : new String[] {"points", "near", "bar"}) {
            faulty(key, 2, key.length());
            faulty(key + ";", 2, key.length());
            faulty(key + " 1", 2, key.length() + 2);
        }
        faulty("near 1 1;", 2, 7);
        faulty("bar 1 1;", 2, 6);
        faulty("1;", 2, 0);
        faulty("first;;", 2, 6);
        faulty("firsts;", 2, 0);
        faulty("firs;", 2, 0);
    }

    private static void fourClauses() {
        Doc.says("At most 4 CLAUSES; at first there is one: first.");
        taken("runs;runs;runs;runs;", 4);
        faulty("runs;runs;runs;runs;runs;", 6, 20);
        DoorList d = new DoorList();
        Check.given("one at first", d, d.many(3), 1);
        d = Check.open("name a; name b; name c; sort 3 order a b c; sort 2 order b c a; sort 2 order c b a;");
        Check.given("which is first", d, d.left(1), 1);
    }

    private static void ruleFaults() {
        Doc.says("FAULTS: 1, 2 as above. 4 a NUMBER that can't be. 6 a fifth CLAUSE (at its WORD), a ninth NUMBER of points "
                + "(at it).");
        faulty("near 0001;", 1, 5);
        faulty("Runs;", 1, 0);
        faulty("runs;!", 1, 5);
        faulty("points 1 -2;", 1, 9);
        faulty("bar 1000;", 1, 4);
        faulty("runs; walks;", 2, 6);
        faulty("runs; pairs   ", 2, 14);
        taken("points 0 99 099;", 1);
        faulty("points 100;", 4, 7);
        faulty("points 99 100;", 4, 10);
        taken("near 1; near 8;", 2);
        faulty("near 0;", 4, 5);
        faulty("near 9;", 4, 5);
        faulty("near 999;", 4, 5);
        taken("bar 0; bar 99;", 2);
        faulty("bar 100;", 4, 4);
        faulty("runs;runs;runs;runs;near 9;", 6, 20);
        faulty("runs;runs;runs;runs;  first", 6, 22);
        faulty("runs;runs;runs;runs;;", 2, 20);
        faulty("runs;runs;runs;runs;!", 1, 20);
        faulty("runs;runs;runs;runs;walk;", 2, 20);
        faulty("points 1 2 3 4 5 6 7 8 9;", 6, 23);
        faulty("points 1 2 3 4 5 6 7 8 9", 6, 23);
        faulty("points 1 2 3 4 5 6 7 8 100;", 4, 23);
        faulty("points 1 2 3 4 5 6 7 8 1000;", 1, 23);
        faulty("points 1 2 3 4 5 6 7 8 a;", 2, 23);
        faulty("points 1 2 3 4 5 6 7 8", 2, 22);
        faulty("near 9; !", 4, 5);
    }

    private static void whoWins() {
        Doc.says("Of the NAMES that STAND (others are passed over in all ORDERS) and voters that are IN the CLAUSES sift, one "
                + "behind the other, those that are LEFT (at first all that STAND); if one is LEFT, it WINS; if several are "
                + "at the end, the one that goes ahead by TIES; if none STANDS, none wins.");
        String hall = "name a; name b; name c off; sort 3 out 99 order c a b; sort 4 out 0 order b c a; ties c b a;";
        DoorList d = Check.open(hall);
        Check.given("at first all that stand", d, d.left(0), 3);
        Check.given("c is passed over", d, d.firsts(0), 3);
        Check.given("one is left", d, d.left(1), 2);
        Check.given("it wins; those out do not count", d, d.wins(), 1);
        d.voters(1, 3, 0);
        Check.given("several are left", d, d.left(1), 3);
        Check.given("b goes ahead", d, d.wins(), 1);
        d.stand(1, false);
        Check.given("a alone", d, d.wins(), 0);
        d.stand(0, false);
        Check.given("none is left", d, d.left(1), 0);
        Check.refused("none wins", d, d.wins(), 8);
        for (String rule : new String[] {"first;", "points 1;", "runs;", "pairs;", "near 1;", "bar 50;", ""}) {
            Check.rule(d, rule);
            Check.refused("none by " + rule, d, d.wins(), 8);
        }
        d.rule(0);
        d.stand(0, true);
        d.stand(1, true);
        Check.given("no clauses: all are left", d, d.left(0), 3);
        Check.given("by ties", d, d.wins(), 1);
    }

    private static void votesByWhatIsLeft() {
        Doc.says("Votes count by what is LEFT (others are passed over).");
        // near 3 leaves a and b; then those who put d first count for a, and b's second places are b's alone
        String hall = "name a; name b; name c; name d; sort 3 order d a b c; sort 4 order b c a d; sort 2 order a c b d;";
        leftBy(hall, "near 3; first;", 15, 3, 1);
        leftBy(hall, "first;", 15, 2);
        leftBy(hall, "near 3; points 0 1;", 15, 3, 2);
        leftBy(hall, "points 0 1;", 15, 4);
        leftBy(hall, "near 3; bar 50;", 15, 3, 1);
        leftBy(hall, "bar 50;", 15, 15);
        leftBy(hall, "near 3; runs;", 15, 3, 1);
        leftBy(hall, "near 3; near 1;", 15, 3, 1);
        leftBy(hall, "near 1;", 15, 2);
    }

    private static void first() {
        Doc.says("first: who are put first by most voters are LEFT.");
        String hall = "name a; name b; name c; sort 2 order a b c; sort 2 order b a c; sort 1 order c a b;";
        leftBy(hall, "first;", 7, 3);
        leftBy(hall.replace("sort 1", "sort 2"), "first;", 7, 7);
        leftBy(hall.replace("sort 1", "sort 3"), "first;", 7, 4);
        leftBy(hall.replaceAll("sort .", "sort 0"), "first;", 7, 7);
    }

    private static void points() {
        Doc.says("points: each voter gives the first of its ORDER the first NUMBER (0 to 99), the second the second one, and "
                + "so on (0 beyond): who have most are LEFT.");
        String hall = "name a; name b; name c; sort 2 order a b c; sort 1 order c b a;";
        leftBy(hall, "points 1;", 7, 1);
        leftBy(hall, "points 0 1;", 7, 2);
        leftBy(hall, "points 0 0 1;", 7, 4);
        leftBy(hall, "points 0 0 0 1;", 7, 7);
        leftBy(hall, "points 0;", 7, 7);
        leftBy(hall, "points 3 2;", 7, 3);
        leftBy(hall, "points 99 98;", 7, 2);
        leftBy(hall, "points 99 99 99;", 7, 7);
        leftBy(hall, "points 1 2 1;", 7, 2);
        leftBy(hall, "points 2 1 0; points 1;", 7, 1, 1);
        String full = EIGHT + "sort 99 order a b c d e f g h;".repeat(18);
        leftBy(full, "points 99 98;", 255, 1);
        leftBy(full, "points 98 99;", 255, 2);
    }

    private static void pointsAtMostEight() {
        String full = EIGHT + "sort 1 order h g f e d c b a;";
        for (int place = 0; place < 8; place++) {
            leftBy(full, "points" + " 0".repeat(place) + " 1;", 255, 128 >> place);
        }
        // a NUMBER short of all gives 0 beyond
        leftBy(full, "points 1 1 1 1 1 1 1;", 255, 254);
        DoorList d = Check.open(full, "points 0 0 0 0 0 0 0 1;");
        d.stand(7, false);
        Check.given("seven have no eighth place", d, d.left(1), 127);
    }

    private static void runs() {
        Doc.says("runs: as long as more than one is LEFT and none is put first by more than half of the voters: the one that "
                + "is put first by fewest is out (of several the one behind all others by TIES); then who is put first by "
                + "more than half is LEFT alone, or who is LEFT.");
        String hall = "name a; name b; name c; sort 4 order a b c; sort 3 order b c a; sort 2 order c b a;";
        leftBy(hall, "runs;", 7, 2);
        // just half is not more than half: c is out, and b has the other half, so the one behind by TIES is out
        leftBy("name a; name b; name c; sort 4 order a b c; sort 3 order b c a; sort 1 order c b a;", "runs;", 7, 1);
        leftBy("name a; name b; name c; sort 4 order a b c; sort 3 order b c a; sort 1 order c b a; ties b a c;", "runs;", 7,
                2);
        leftBy("name a; name b; name c; sort 5 order a b c; sort 3 order b c a; sort 1 order c b a;", "runs;", 7, 1);
        leftBy("name a; name b; name c; sort 5 order c b a; sort 4 order b a c; ties a b c;", "runs;", 7, 4);
        leftBy("name a; name b off; sort 5 order b a;", "runs;", 1, 1);
    }

    private static void runsByTies() {
        String hall = "name a; name b; name c; name d; sort 3 order a b c d; sort 1 order b c d a; sort 1 order c d b a; "
                + "sort 1 order d b c a; ";
        // d is out, its voter goes to b; c is out, its voter goes to b: 3 and 3, and b is behind a
        leftBy(hall + "ties a b c d;", "runs;", 15, 1);
        leftBy(hall + "ties b a c d;", "runs;", 15, 2);
        // b is out, its voter goes to c; d is out, its voter goes to c
        leftBy(hall + "ties d c b a;", "runs;", 15, 4);
        leftBy(hall + "ties a c d b;", "runs;", 15, 1);
        leftBy(hall + "ties c a d b;", "runs;", 15, 4);
        String empty = "name a; name b; name c; sort 0 order a b c; ties b c a;";
        leftBy(empty, "runs;", 7, 2);
        // of eight seven are out, one behind the other
        leftBy(EIGHT, "runs;", 255, 1);
        leftBy(EIGHT + "ties h g f e d c b a;", "runs;", 255, 128);
    }

    private static void pairs() {
        Doc.says("pairs: whoever beats each other one (more voters put it ahead of that than behind it) is LEFT alone; if "
                + "none does, all stay.");
        String hall = "name a; name b; name c; sort 2 order a b c; sort 1 order b c a; sort 1 order c b a;";
        // a has two of four against each: not more ahead than behind
        leftBy(hall, "pairs;", 7, 7);
        leftBy(hall.replace("sort 2", "sort 3"), "pairs;", 7, 1);
        leftBy("name a; name b; name c; sort 2 order a b c; sort 2 order b c a; sort 1 order c b a;", "pairs;", 7, 2);
        leftBy("name a; name b; name c; sort 1 order a b c; sort 1 order b c a; sort 1 order c a b;", "pairs;", 7, 7);
        leftBy("name a; name b; name c; sort 0 order a b c;", "pairs;", 7, 7);
        leftBy("name a; name b off; sort 1 order b a;", "pairs;", 1, 1);
        // one that does not stand is passed over, though it beats each other one; the last one may be it
        leftBy("name a; name b off; name c; sort 1 order b c a;", "pairs;", 5, 4);
        leftBy("name a off; name b; name c; sort 1 order a b c;", "pairs;", 6, 2);
        leftBy(EIGHT + "sort 1 order h a b c d e f g;", "pairs;", 255, 128);
        // only those LEFT are asked: c, who beats all, is taken away by the clause ahead
        leftBy("name a; name b; name c; sort 3 order a c b; sort 3 order b c a; sort 1 order a b c;", "first; pairs;", 7, 1, 1);
    }

    private static void near() {
        Doc.says("near n: who are among the first n (1 to 8) of their ORDER for most voters are LEFT.");
        String hall = "name a; name b; name c; sort 3 order a b c; sort 2 order c b a;";
        leftBy(hall, "near 1;", 7, 1);
        leftBy(hall, "near 2;", 7, 2);
        leftBy(hall, "near 3;", 7, 7);
        leftBy(hall, "near 8;", 7, 7);
        leftBy(hall.replace("name b;", "name b off;"), "near 1;", 5, 1);
        leftBy(hall.replace("name b;", "name b off;"), "near 2;", 5, 5);
        String full = EIGHT + "sort 1 order a b c d e f g h;";
        for (int n = 1; n <= 8; n++) {
            leftBy(full, "near " + n + ";", 255, (1 << n) - 1);
        }
    }

    private static void bar() {
        Doc.says("bar n: all who are put first by at least n (0 to 99) of a hundred voters are LEFT; if none is, all stay.");
        String hall = "name a; name b; name c; name d; sort 49 order a b c d; sort 50 order b a c d; sort 1 order c b a d;";
        leftBy(hall, "bar 0;", 15, 15);
        leftBy(hall, "bar 1;", 15, 7);
        leftBy(hall, "bar 2;", 15, 3);
        leftBy(hall, "bar 49;", 15, 3);
        leftBy(hall, "bar 50;", 15, 2);
        leftBy(hall, "bar 51;", 15, 15);
        leftBy(hall, "bar 99;", 15, 15);
        String third = "name a; name b; name c; sort 1 order a b c; sort 2 order b a c;";
        leftBy(third, "bar 33;", 7, 3);
        leftBy(third, "bar 34;", 7, 2);
        leftBy(third, "bar 66;", 7, 2);
        leftBy(third, "bar 67;", 7, 7);
        leftBy("name a; name b; sort 99 order a b; sort 1 order b a;", "bar 99;", 3, 1);
        leftBy("name a; name b; sort 98 order a b; sort 2 order b a;", "bar 99;", 3, 3);
        leftBy("name a; name b; sort 0 order a b;", "bar 99;", 3, 3);
        leftBy(EIGHT + "sort 1 order a b c d e f g h; sort 1 order h b c d e f g a;", "bar 50;", 255, 129);
    }

    private static void wins() {
        Doc.says("Who WINS (8: none STANDS).");
        Doc.says("8 there is none.");
        DoorList d = new DoorList();
        Check.refused("no hall", d, d.wins(), 8);
        d = Check.open("name a off; name b off;");
        Check.refused("none stands", d, d.wins(), 8);
        d.stand(1, true);
        Check.given("b alone, without voters", d, d.wins(), 1);
        d.stand(0, true);
        Check.given("by ties, without voters", d, d.wins(), 0);
    }

    private static void firsts() {
        Doc.says("How many voters IN put a NAME first among those that STAND (2; 9: it does not STAND).");
        DoorList d = Check.open("name a; name b; name c off; sort 99 out 50 order c a b; sort 98 order b c a;");
        Check.given("a", d, d.firsts(0), 99);
        Check.given("b", d, d.firsts(1), 98);
        Check.refused("c does not stand", d, d.firsts(2), 9);
        d.stand(2, true);
        Check.given("c", d, d.firsts(2), 99);
        Check.given("a: none", d, d.firsts(0), 0);
        for (int name : new int[] {-1, 3, 8, MIN, MAX}) {
            Check.refused("firsts " + name, d, d.firsts(name), 2);
        }
        DoorList e = new DoorList();
        Check.refused("no hall", e, e.firsts(0), 2);
    }

    private static void beats() {
        Doc.says("By how many more voters IN a NAME is put ahead of another one than behind it (below 0: fewer); STATUS tells "
                + "NONE from -1 (2: one and the same, too).");
        DoorList d = Check.open("name a; name b; name c off; sort 5 out 90 order a c b; sort 4 order b a c;");
        Check.given("one more", d, d.beats(0, 1), 1);
        Check.given("one fewer", d, d.beats(1, 0), -1);
        Check.given("also of one that does not stand", d, d.beats(2, 0), -9);
        Check.given("also of one that does not stand", d, d.beats(2, 1), 1);
        d.voters(0, 4, 0);
        Check.given("as many", d, d.beats(0, 1), 0);
        for (int name = 0; name < 3; name++) {
            Check.refused("one and the same", d, d.beats(name, name), 2);
        }
        for (int name : new int[] {-1, 3, MIN, MAX}) {
            Check.refused("beats " + name, d, d.beats(name, 0), 2);
            Check.refused("beats 0, " + name, d, d.beats(0, name), 2);
            Check.refused("the same that is none", d, d.beats(name, name), 2);
        }
        d = Check.open("name a; name b;" + "sort 99 order a b;".repeat(20));
        Check.given("most of all", d, d.beats(0, 1), 1980);
        Check.given("fewest of all", d, d.beats(1, 0), -1980);
    }

    private static void left() {
        Doc.says("Who would be LEFT behind the first so many CLAUSES (0 to all): a set (5).");
        DoorList d = Check.open("name a; name b; name c; name d off; sort 2 order a b c d; sort 2 order b c a d; "
                + "sort 1 order c a b d;", "near 3; bar 30; first; pairs;");
        int[] want = {7, 7, 3, 1, 1};
        for (int clauses = 0; clauses <= 4; clauses++) {
            Check.given("left " + clauses, d, d.left(clauses), want[clauses]);
        }
        for (int clauses : new int[] {-1, 5, MIN, MAX}) {
            Check.refused("left " + clauses, d, d.left(clauses), 5);
        }
        Check.rule(d, "runs;");
        Check.refused("left 2 of one", d, d.left(2), 5);
        d.rule(0);
        Check.given("left 0 of none", d, d.left(0), 7);
        Check.refused("left 1 of none", d, d.left(1), 5);
    }

    private static void changesInATray() {
        Doc.says("CHANGES: a name is put UP (one that does not stand), taken DOWN (one that stands); a voter of a SORT comes "
                + "IN (one that is out), goes OUT (one that is IN). Told in a TRAY one by one: 4 times the NAME or SORT, and "
                + "0 UP, 1 DOWN, 2 IN, 3 OUT. COST: the sum of what they cost.");
        String hall = EIGHT.replace("h;", "h off cost 9;") + "sort 1 cost 4 order h a b c d e f g;".repeat(3)
                + "sort 0 out 1 cost 5 order a b c d e f g h;";
        DoorList d = Check.open(hall);
        int[][] rows = {{28, 9}, {1, 1}, {25, 1}, {14, 5}, {3, 4}, {11, 4}};
        for (int[] row : rows) {
            Check.fill(d, 0, row[0]);
            Check.given("cost of " + row[0], d, d.cost(0, 1), row[1]);
        }
        for (int told : new int[] {0, 24, 29, 2, 10, 15}) {
            Check.fill(d, 0, told);
            Check.refused("it can't be: " + told, d, d.cost(0, 1), 9);
            Check.refused("it can't be: " + told, d, d.told(0, 1), 9);
        }
        Check.fill(d, 0, 28, 29, 28, 3, 2, 14, 15);
        Check.given("each after those ahead", d, d.cost(0, 7), 9 * 3 + 4 * 2 + 5 * 2);
        Check.fill(d, 0, 28, 28);
        Check.refused("twice up", d, d.cost(0, 2), 9);
        Check.fill(d, 0, 3, 3);
        Check.refused("twice out of one", d, d.cost(0, 2), 9);
        Check.fill(d, 0, 14, 14);
        Check.refused("twice in of one", d, d.cost(0, 2), 9);
    }

    private static void told() {
        Doc.says("Who would WIN by so many CHANGES (0 to 20) in a TRAY, one by one (nothing is changed)");
        DoorList d = Check.open("name a; name b; sort 2 order a b; sort 0 out 20 order b a;");
        d.tray(0, 0, 60);
        for (int i = 0; i < 21; i++) {
            d.write(0, i, 6);
        }
        for (int many = 0; many <= 20; many++) {
            Check.given("told " + many, d, d.told(0, many), many > 2 ? 1 : 0);
            Check.given("cost " + many, d, d.cost(0, many), many);
        }
        for (int many : new int[] {-1, 21, 60, MIN, MAX}) {
            Check.refused("told " + many, d, d.told(0, many), 5);
            Check.refused("cost " + many, d, d.cost(0, many), 5);
        }
        Check.given("nothing is changed", d, d.sort(1, 0), 0);
        Check.given("nobody is gone", d, d.sort(1, 1), 20);
        Check.given("who wins", d, d.wins(), 0);
        Check.fill(d, 1, 1, 5, 0);
        Check.refused("none stands then", d, d.told(1, 2), 8);
        Check.given("one is up again", d, d.told(1, 3), 0);
        Check.given("both stand", d, d.many(4), 3);
        d.tray(2, 0, 0);
        Check.given("no changes", d, d.told(2, 0), 0);
        Check.given("cost nothing", d, d.cost(2, 0), 0);
    }

    private static void toldInThisOrder() {
        Doc.says("(1; 3; 5: so many; 4; 5: a number that names none; 9: one can't be; 8; in this order).");
        DoorList d = Check.open("name a; name b off; sort 0 order a b;");
        for (int tray : new int[] {-1, 4, MIN, MAX}) {
            Check.refused("tray " + tray, d, d.told(tray, 21), 1);
            Check.refused("tray " + tray, d, d.cost(tray, 21), 1);
        }
        for (int tray = 0; tray < 4; tray++) {
            Check.refused("3 ahead of 5", d, d.told(tray, 21), 3);
            Check.refused("3 ahead of 5", d, d.cost(tray, -1), 3);
        }
        Check.fill(d, 0, 99);
        Check.refused("5 of so many ahead of 4", d, d.told(0, 21), 5);
        Check.refused("5 of so many ahead of 4", d, d.told(0, -1), 5);
        Check.refused("4 ahead of 5 of a number", d, d.told(0, 2), 4);
        Check.refused("of cost too", d, d.cost(0, 2), 4);
        // what names none: NAME 2, SORT 1, below 0, and far ones that an int would wrap around
        long[] none = {8, 9, 6, 7, 10, 11, -1, -2, -3, -4, 80, 1L << 32, (1L << 34) + 1, Long.MAX_VALUE, Long.MIN_VALUE,
            Long.MIN_VALUE + 1};
        for (long v : none) {
            Check.fill(d, 0, 0, v);
            Check.refused("5 ahead of 9: " + v, d, d.told(0, 2), 5);
            Check.refused("5 ahead of 9: " + v, d, d.cost(0, 2), 5);
            Check.refused("one that is not asked", d, d.told(0, 1), 9);
        }
        Check.fill(d, 0, 1, 3);
        Check.refused("9 ahead of 8", d, d.told(0, 2), 9);
        Check.refused("8", d, d.told(0, 1), 8);
        DoorList e = new DoorList();
        Check.fill(e, 0, 0);
        Check.refused("no hall: 5", e, e.told(0, 1), 5);
        Check.refused("no hall: 8", e, e.told(0, 0), 8);
        Check.given("no hall: cost 0", e, e.cost(0, 0), 0);
    }

    private static void cost() {
        Doc.says("What they cost together (likewise, but for 8).");
        DoorList d = Check.open("name a cost 99; name b cost 0; sort 0 out 99 cost 99 order a b;");
        Check.fill(d, 0, 1, 5);
        Check.refused("8 of told()", d, d.told(0, 2), 8);
        Check.given("not of cost()", d, d.cost(0, 2), 99);
        d.tray(1, 0, 20);
        for (int i = 0; i < 20; i++) {
            d.write(1, i, 2);
        }
        Check.given("most of all", d, d.cost(1, 20), 1980);
        Check.given("nothing is changed", d, d.sort(0, 1), 99);
    }
}
