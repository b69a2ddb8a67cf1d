/** Promises 9 to 18: the tape, the HALL and the RULE as texts, their FAULTS, what they hold. */
public final class TextsTest {
    private static final String THREE = "name a; name b; name c off cost 3; "
            + "sort 3 order a b c; sort 2 cost 7 out 9 order b a c; ties b a c;";

    public static void main(String[] args) {
        feedFills();
        hallIsTaken();
        hallRefuses();
        hallFaults();
        hallFaultsOfOneToken();
        hallLimits();
        ruleIsTaken();
        ruleFaults();
        faultTells();
        manyNameSortOrder();
        standAndVoters();
        Check.end("TextsTest");
    }

    private static void feedFills() {
        DoorList d = new DoorList();
        for (int i = 1; i <= 35; i++) {
            Check.due("feed " + i, d.feed(0x20202020, 0x20202020, 0x20202020, 0x20202020, 0x20202020), 20 * i);
        }
        d.many(9);
        Check.due("the 36th", d.feed(0, 0, 0, 0, 0), -1);
        Check.due("no status of its own", d.status(), 5);
        Check.given("700 blanks are a hall", d, d.hall(700), 0);
        Check.due("the tape is empty then", d.feed(0, 0, 0, 0, 0), 20);
        DoorList e = new DoorList();
        // name/ a;n/ame /b;so/rt 2: the highest byte of each int is first
        e.feed(0x6e616d65, 0x20613b6e, 0x616d6520, 0x623b736f, 0x72742032);
        e.feed(0x206f7264, 0x65722062, 0x20613b20, 0, 0);
        Check.given("bytes in their order", e, e.hall(31), 2);
        Check.given("its sort", e, e.order(0, 0), 1);
    }

    private static void hallIsTaken() {
        DoorList d = new DoorList();
        Check.given("three", d, Check.hall(d, THREE), 3);
        Check.due("no fault", d.fault(0), 0);
        Check.due("no place", d.fault(1), -1);
        Check.given("the old one is gone", d, Check.hall(d, "name z off;"), 1);
        Check.given("no sorts", d, d.many(1), 0);
        Check.given("none stands", d, d.many(4), 0);
        Check.given("an empty text", d, d.hall(0), 0);
        Check.given("no names", d, d.many(0), 0);
        Check.given("newlines and no blanks", d,
                Check.hall(d, "\n\nname\na;name b\n;sort 0order a b;ties b\n\na;\n"), 2);
        Check.given("ties", d, d.name(1, 2), 0);
        Check.given("words of the rule and the acts are names", d,
                Check.hall(d, "name first; name end; name abcdefgh;"), 3);
        Check.given("ties ahead of sorts", d, Check.hall(d, "name a; ties a; sort 1 order a; sort 099 order a;"), 1);
        Check.given("099 is 99", d, d.sort(1, 0), 99);
        Check.given("cost 0 and 99", d, Check.hall(d, "name a cost 0; name b off cost 99;"), 2);
        Check.given("cost 0", d, d.name(0, 1), 0);
        String sorts = "name a; sort 1 out 5 cost 7 order a;";
        Check.given("out and cost", d, Check.hall(d, sorts), 1);
        Check.given("without", d, Check.hall(d, "name a; sort 1 order a;"), 1);
        Check.given("nothing is left of the text ahead: out", d, d.sort(0, 1), 0);
        Check.given("nor the cost", d, d.sort(0, 2), 1);
        Check.given("nor ties", d, Check.hall(d, "name a; name b; ties b a;"), 2);
        Check.given("as numbered", d, Check.hall(d, "name a; name b;"), 2);
        Check.given("as numbered", d, d.name(0, 2), 0);
        Check.given("costs", d, Check.hall(d, "name a cost 0; name b off cost 99;"), 2);
        Check.given("cost 99", d, d.name(1, 1), 99);
    }

    private static void hallRefuses() {
        DoorList d = new DoorList();
        Check.refused("-1", d, d.hall(-1), 5);
        Check.refused("1 of an empty tape", d, d.hall(1), 5);
        Check.feedText(d, "name a;");
        Check.refused("21 of 20", d, d.hall(21), 5);
        Check.due("the tape stays with 5", d.feed(0, 0, 0, 0, 0), 40);
        Check.given("its first 7", d, d.hall(7), 1);
        Check.refused("all of it is gone", d, d.hall(7), 5);
        Check.fault("a fault", d, Check.hall(d, "name b"), 2, 6);
        Check.refused("the tape is empty behind a fault", d, d.hall(1), 5);
        Check.due("5 leaves the fault", d.fault(0), 2);
        Check.given("the old one stays", d, d.many(0), 1);
        Check.given("and stands", d, d.many(4), 1);
    }

    private static void oneFault(String text, int kind, int place) {
        DoorList d = Check.open(THREE);
        Check.fault("hall " + text, d, Check.hall(d, text), kind, place);
        Check.due("the old hall stays", d.many(0), 3);
        Check.due("with its sorts", d.sort(1, 1), 9);
    }

    private static void hallFaults() {
        oneFault("!", 1, 0);
        oneFault("name A;", 1, 5);
        oneFault("name\ta;", 1, 4);
        oneFault("name a;\u00e9", 1, 7);
        oneFault("name a cost 1234;", 1, 12);
        oneFault("name a cost 00001;", 1, 12);
        oneFault(";", 2, 0);
        oneFault("12", 2, 0);
        oneFault("nam a;", 2, 0);
        oneFault("name 1;", 2, 5);
        oneFault("name off;", 2, 5);
        oneFault("name abcdefghi;", 2, 5);
        oneFault("name a cost 3 off;", 2, 14);
        oneFault("name a off off;", 2, 11);
        oneFault("name a b;", 2, 7);
        oneFault("name a1;", 2, 6);
        oneFault("name a cost;", 2, 11);
        oneFault("name a cost ", 2, 12);
        oneFault("name a; sort", 2, 12);
        oneFault("name a; sort a;", 2, 13);
        oneFault("name a; sort 1 order;", 2, 20);
        oneFault("name a; sort 1 order a", 2, 22);
        oneFault("name a; sort 1 order a 1;", 2, 23);
        oneFault("name a; sort 1 order a off;", 2, 23);
        oneFault("name a; sort 1 off order a;", 2, 15);
        oneFault("name a; ties;", 2, 12);
        oneFault("name a; ties a", 2, 14);
        oneFault("name a; name b; name a off;", 3, 21);
        oneFault("name a; sort 1 order b;", 3, 21);
        oneFault("name a; ties zed;", 3, 13);
        oneFault("sort 1 order a;", 3, 13);
        oneFault("name a cost 100;", 4, 12);
        oneFault("name a; sort 100 order a;", 4, 13);
        oneFault("name a; sort 1 out 100 order a;", 4, 19);
        oneFault("name a; sort 1 cost 999 order a;", 4, 20);
        oneFault("name a; sort 1 order a a;", 5, 23);
        oneFault("name a; ties a a;", 5, 15);
        oneFault("name a; sort 1 out 1 out 2 order a;", 5, 21);
        oneFault("name a; sort 1 cost 1 out 1 cost 1 order a;", 5, 28);
        oneFault("name a; sort 1 cost 1 cost", 5, 22);
        oneFault("name a; ties a; ties", 5, 16);
        oneFault("name a; sort 1 order a; name b;", 7, 24);
        oneFault("name a; ties a; name", 7, 16);
        oneFault("name a; name b; sort 1 order a;", 8, 30);
        oneFault("name a; name b; ties b ;", 8, 23);
    }

    /** The first along the text counts, and of one TOKEN the least kind. */
    private static void hallFaultsOfOneToken() {
        oneFault("name a; sort 100 !", 4, 13);
        oneFault("name a; sort ! 100", 1, 13);
        oneFault("name a; sort 1 order off !", 2, 21);
        String eight = "name a;name b;name c;name d;name e;name f;name g;name h;";
        oneFault(eight + "name i;", 6, 61);
        oneFault(eight + "name a;", 3, 61);
        oneFault(eight + "name off;", 2, 61);
        oneFault(eight + "name Q;", 1, 61);
        oneFault(eight + "ties a b c d e f g h; name i;", 7, 78);
        oneFault(eight + "ties a b c d e f g h i;", 3, 77);
        oneFault(eight + "ties a b c d e f g h h;", 5, 77);
    }

    private static void hallLimits() {
        StringBuilder text = new StringBuilder("name a;");
        for (int i = 0; i < 20; i++) {
            text.append("sort ").append(i).append(" order a;");
        }
        DoorList d = new DoorList();
        Check.given("20 sorts", d, Check.hall(d, text.toString()), 1);
        Check.given("all there", d, d.many(1), 20);
        Check.given("the last", d, d.sort(19, 0), 19);
        int end = text.length();
        Check.fault("a 21st", d, Check.hall(d, text + "sort !"), 6, end);
        Check.given("all there still", d, d.many(1), 20);
        String eight = "name a;name b;name c;name d;name e;name f;name g;name h;";
        String full = eight + "sort 1order a b c d e f g h;".repeat(19) + "sort 99out 99cost 99order a h g f e d c b;";
        Check.given("8 names, 20 sorts", d, Check.hall(d, full), 8);
        for (int what = 0; what < 2; what++) {
            Check.given("the last sort " + what, d, d.sort(19, what), 99);
        }
        Check.given("its cost", d, d.sort(19, 2), 99);
        for (int place = 0; place < 8; place++) {
            Check.given("its order", d, d.order(19, place), (8 - place) % 8);
        }
        Check.given("the last names by pairs", d, d.beats(7, 1), 80);
        Check.given("the first ahead of the last", d, d.beats(0, 7), 118);
    }

    private static void ruleIsTaken() {
        DoorList d = new DoorList();
        Check.given("four", d, Check.rule(d, "points 3 2 1; pairs; bar 0; runs;"), 4);
        Check.given("clauses", d, d.many(3), 4);
        Check.due("no fault", d.fault(0), 0);
        Check.given("others", d, Check.rule(d, "near 8;first;\nbar 99;"), 3);
        Check.given("eight numbers", d, Check.rule(d, "points 0 1 2 3 4 5 6 99;"), 1);
        Check.given("a hall leaves the rule", d, Check.hall(d, "name a; name b; sort 1 order a b; sort 2 order b a;"), 2);
        Check.given("the second counts more", d, d.wins(), 0);
        Check.given("none", d, d.rule(0), 0);
        Check.given("no clauses", d, d.many(3), 0);
        Check.given("by ties alone", d, d.wins(), 0);
        Check.refused("-1", d, d.rule(-1), 5);
        for (int i = 0; i < 11; i++) {
            Check.feedText(d, "                    ");
        }
        Check.refused("221 of 220", d, d.rule(221), 5);
        Check.refused("201", d, d.rule(201), 5);
        Check.due("the tape stays", d.feed(0, 0, 0, 0, 0), 240);
        Check.given("200 blanks", d, d.rule(200), 0);
        Check.due("the tape is empty", d.feed(0, 0, 0, 0, 0), 20);
    }

    private static void oneRuleFault(String text, int kind, int place) {
        DoorList d = new DoorList();
        Check.rule(d, "runs; first;");
        Check.fault("rule " + text, d, Check.rule(d, text), kind, place);
        Check.given("the old rule stays", d, d.many(3), 2);
    }

    private static void ruleFaults() {
        oneRuleFault("First;", 1, 0);
        oneRuleFault("near 1000;", 1, 5);
        oneRuleFault("go;", 2, 0);
        oneRuleFault(";", 2, 0);
        oneRuleFault("first", 2, 5);
        oneRuleFault("first 1;", 2, 6);
        oneRuleFault("points;", 2, 6);
        oneRuleFault("points 1 runs;", 2, 9);
        oneRuleFault("points 1", 2, 8);
        oneRuleFault("near;", 2, 4);
        oneRuleFault("bar 5 5;", 2, 6);
        oneRuleFault("name a;", 2, 0);
        oneRuleFault("points 1 100;", 4, 9);
        oneRuleFault("near 0;", 4, 5);
        oneRuleFault("near 9;", 4, 5);
        oneRuleFault("bar 100;", 4, 4);
        oneRuleFault("runs;runs;runs;runs;runs", 6, 20);
        oneRuleFault("runs;runs;runs;runs;walk", 2, 20);
        oneRuleFault("points 1 2 3 4 5 6 7 8 9;", 6, 23);
        oneRuleFault("points 1 2 3 4 5 6 7 8 100;", 4, 23);
        oneRuleFault("points 1 2 3 4 5 6 7 8 1000;", 1, 23);
    }

    private static void faultTells() {
        DoorList d = new DoorList();
        for (int what = -1; what <= 2; what++) {
            Check.due("ahead of any", d.fault(what), -1);
        }
        d.hall(9);
        Check.due("5 is none", d.fault(0), -1);
        Check.fault("acts", d, Check.acts(d, "up"), 2, 2);
        Check.due("what 2", d.fault(2), -1);
        Check.due("what -1", d.fault(-1), -1);
        d.rule(0);
        Check.due("of a good rule", d.fault(0), 0);
        Check.due("no place", d.fault(1), -1);
    }

    private static void manyNameSortOrder() {
        DoorList d = Check.open(THREE);
        Check.given("names", d, d.many(0), 3);
        Check.given("sorts", d, d.many(1), 2);
        Check.given("voters in", d, d.many(2), 5);
        Check.given("standing", d, d.many(4), 3);
        Check.refused("many(5)", d, d.many(5), 5);
        Check.refused("many(-1)", d, d.many(-1), 5);
        int[][] want = {{1, 1, 1}, {1, 1, 0}, {0, 3, 2}};
        for (int name = 0; name < 3; name++) {
            for (int what = 0; what < 3; what++) {
                Check.given("name " + name + " " + what, d, d.name(name, what), want[name][what]);
            }
        }
        Check.refused("name(3, 9)", d, d.name(3, 9), 2);
        Check.refused("name(-1, 0)", d, d.name(-1, 0), 2);
        Check.refused("name(0, 3)", d, d.name(0, 3), 5);
        Check.refused("name(0, -1)", d, d.name(0, -1), 5);
        int[][] sorts = {{3, 0, 1}, {2, 9, 7}};
        for (int sort = 0; sort < 2; sort++) {
            for (int what = 0; what < 3; what++) {
                Check.given("sort " + sort + " " + what, d, d.sort(sort, what), sorts[sort][what]);
            }
        }
        Check.refused("sort(2, 9)", d, d.sort(2, 9), 2);
        Check.refused("sort(-1, 0)", d, d.sort(-1, 0), 2);
        Check.refused("sort(0, 3)", d, d.sort(0, 3), 5);
        Check.given("order", d, d.order(1, 0), 1);
        Check.given("order", d, d.order(1, 1), 0);
        Check.given("order", d, d.order(1, 2), 2);
        Check.refused("order(2, 9)", d, d.order(2, 9), 2);
        Check.refused("order(1, 3)", d, d.order(1, 3), 5);
        Check.refused("order(1, -1)", d, d.order(1, -1), 5);
    }

    private static void standAndVoters() {
        DoorList d = Check.open(THREE);
        Check.given("c stands", d, d.stand(2, true));
        Check.given("again", d, d.stand(2, true));
        Check.given("a not", d, d.stand(0, false));
        Check.given("who stands", d, d.many(4), 6);
        Check.refused("stand(3)", d, d.stand(3, true), 2);
        Check.refused("stand(-1)", d, d.stand(-1, false), 2);
        Check.given("voters", d, d.voters(1, 99, 0));
        Check.given("in", d, d.sort(1, 0), 99);
        Check.given("out", d, d.sort(1, 1), 0);
        Check.given("the cost stays", d, d.sort(1, 2), 7);
        Check.given("99 out", d, d.voters(0, 3, 99));
        Check.given("out", d, d.sort(0, 1), 99);
        Check.refused("voters(2)", d, d.voters(2, 100, 0), 2);
        Check.refused("100 in", d, d.voters(0, 100, 0), 5);
        Check.refused("100 out", d, d.voters(0, 0, 100), 5);
        Check.refused("-1 in", d, d.voters(0, -1, 0), 5);
        Check.refused("-1 out", d, d.voters(0, 0, -1), 5);
        Check.given("nothing is changed by these", d, d.many(2), 102);
    }
}
