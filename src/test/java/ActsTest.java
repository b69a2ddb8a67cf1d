/** Promises 38 to 42: ACTS as a text, how they are done, MARKS. */
public final class ActsTest {
    private static final String HALL = "name a cost 2; name b cost 3; name c off cost 4; "
            + "sort 3 out 1 cost 5 order a b c; sort 2 out 9 cost 6 order b a c; ties b a c;";

    public static void main(String[] args) {
        actsAreTaken();
        actsFaults();
        actsLimits();
        plainSteps();
        spending();
        loops();
        whenAndUntil();
        cutAtTwoHundred();
        actedRefuses();
        marks();
        Check.end("ActsTest");
    }

    private static void actsAreTaken() {
        DoorList d = new DoorList();
        Check.given("none", d, d.acts(0), 0);
        Check.given("all kinds", d, Check.acts(d, "up a; down b; in 0 0; out 19 99; spend 999; loop 1; end; "
                + "when a; when not b; until not c; end;end;end;"), 9);
        Check.due("no fault", d.fault(0), 0);
        Check.given("words of the hall are names here", d, Check.acts(d, "up name; when not cost; end;"), 2);
        Check.refused("-1", d, d.acts(-1), 5);
        Check.refused("an empty tape", d, d.acts(1), 5);
        for (int i = 0; i < 16; i++) {
            Check.feedText(d, "up a;               ");
        }
        Check.refused("301", d, d.acts(301), 5);
        Check.given("300", d, d.acts(300), 15);
        Check.due("the tape is empty", d.feed(0, 0, 0, 0, 0), 20);
    }

    private static void oneFault(String text, int kind, int place) {
        DoorList d = Check.open(HALL);
        Check.acts(d, "down a; up c;");
        Check.fault("acts " + text, d, Check.acts(d, text), kind, place);
        Check.due("the tape is empty", d.feed(0, 0, 0, 0, 0), 20);
        Check.given("the old ones stay", d, d.act(), 2);
        Check.given("and do what they did", d, d.many(4), 6);
    }

    private static void actsFaults() {
        oneFault("up A;", 1, 3);
        oneFault("in 0 1000;", 1, 5);
        oneFault("up", 2, 2);
        oneFault("up;", 2, 2);
        oneFault("up 1;", 2, 3);
        oneFault("up not a;", 2, 3);
        oneFault("up abcdefghi;", 2, 3);
        oneFault("go a;", 2, 0);
        oneFault("up a", 2, 4);
        oneFault("up a b;", 2, 5);
        oneFault("in 1;", 2, 4);
        oneFault("in 1 2 3;", 2, 7);
        oneFault("in a 1;", 2, 3);
        oneFault("spend;", 2, 5);
        oneFault("loop;", 2, 4);
        oneFault("loop 1;", 2, 7);
        oneFault("loop 1; up a; ", 2, 14);
        oneFault("end;", 2, 0);
        oneFault("loop 1; end; end;", 2, 13);
        oneFault("loop 1; end", 2, 11);
        oneFault("loop 1; end 1;", 2, 12);
        oneFault("when not not a;", 2, 9);
        oneFault("when not;", 2, 8);
        oneFault("until 1;", 2, 6);
        for (String key : new String[] {"up", "down", "in", "out", "spend", "loop", "when", "until", "not", "end"}) {
            oneFault("down " + key + ";", 2, 5);
        }
        oneFault("in 20 1;", 4, 3);
        oneFault("in 19 100;", 4, 6);
        oneFault("out 99 1;", 4, 4);
        oneFault("loop 0;", 4, 5);
        oneFault("loop 10;", 4, 5);
    }

    private static void actsLimits() {
        oneFault("loop 1; loop 1; when a; until b; end;end;end;end;", 5, 24);
        oneFault("loop 1; loop 1; when a; loop !", 5, 24);
        String forty = "up a;".repeat(40);
        DoorList d = new DoorList();
        Check.given("40 steps", d, Check.acts(d, forty), 40);
        oneFault(forty + "up", 6, 200);
        oneFault(forty + "go", 2, 200);
        String within = "loop 1;loop 1;loop 1;" + "up a;".repeat(37);
        oneFault(within + "loop", 5, within.length());
        oneFault(within + "up a;", 6, within.length());
        Check.given("ends are no steps", d, Check.acts(d, within + "end;end;end;"), 40);
        Check.given("many ends", d, Check.acts(d, "loop 1;end;".repeat(27)), 27);
    }

    private static void acted(DoorList d, String what, int changes, int cost, int left, int cut) {
        Check.given("changes of " + what, d, d.acted(0), changes);
        Check.given("cost of " + what, d, d.acted(1), cost);
        Check.given("left of " + what, d, d.acted(2), left);
        Check.given("cut of " + what, d, d.acted(3), cut);
    }

    private static void plainSteps() {
        DoorList d = Check.open(HALL);
        Check.acts(d, "up c; up c; down a; down a; up zed; in 0 5; out 1 1; in 2 9; out 1 99;");
        Check.given("act", d, d.act(), 9);
        acted(d, "plain steps", 5, 4 + 2 + 5 + 6 + 6, 0, 0);
        Check.given("who stands", d, d.many(4), 6);
        Check.given("all of sort 0 are in", d, d.sort(0, 0), 4);
        Check.given("none is out", d, d.sort(0, 1), 0);
        Check.given("none of sort 1 is in", d, d.sort(1, 0), 0);
        Check.given("all are out", d, d.sort(1, 1), 11);
        Check.given("act again", d, d.act(), 9);
        acted(d, "the second time", 0, 0, 0, 0);
    }

    private static void spending() {
        DoorList d = Check.open(HALL);
        Check.acts(d, "up c; spend 5; spend 8; up c; out 0 3; down b; down a;");
        Check.given("act", d, d.act(), 7);
        // 13 laid by: c 4, one voter 5 (then 4 are left), b 3; a's 2 can't be paid
        acted(d, "spending", 3, 12, 1, 0);
        Check.given("who stands", d, d.many(4), 5);
        Check.given("one went", d, d.sort(0, 0), 2);
        DoorList e = Check.open(HALL);
        Check.acts(e, "up c; when zed; spend 999; end;");
        Check.given("act", e, e.act(), 2);
        acted(e, "a spend that is not come to", 0, 0, 0, 0);
        Check.acts(e, "up c;");
        e.act();
        acted(e, "without spend all is free again", 1, 4, 0, 0);
        Check.fault("a loop without end", e, Check.acts(e, "spend 1; loop 2; up c;"), 2, 22);
        Check.given("and then a text without loops", e, Check.acts(e, "down c;"), 1);
        Check.fault("no end without a loop", e, Check.acts(e, "end;"), 2, 0);
        e.act();
        acted(e, "free still", 1, 4, 0, 0);
        DoorList g = Check.open("name a;name b;name c;name d;name e;name f;name g;name h off;sort 1 order h a b c d e f g;");
        Check.acts(g, "up h; when h; down a; end;");
        Check.given("the eighth name", g, g.act(), 3);
        Check.given("stands", g, g.many(4), 254);
        DoorList f = Check.open("name a cost 0; sort 3 cost 0 order a;");
        Check.acts(f, "spend 0; down a; out 0 9;");
        f.act();
        acted(f, "what costs nothing", 4, 0, 0, 0);
    }

    private static void loops() {
        DoorList d = Check.open(HALL);
        Check.acts(d, "loop 3; in 1 1; loop 2; in 1 1; end; end; out 0 1;");
        Check.given("act", d, d.act(), 1 + 3 * (1 + 1 + 2) + 1);
        acted(d, "loops", 10, 59, 0, 0);
        Check.given("all in", d, d.sort(1, 0), 11);
        Check.acts(d, "loop 9; end; loop 9; loop 9; end; end;");
        Check.given("empty loops", d, d.act(), 1 + 1 + 9);
    }

    private static void whenAndUntil() {
        DoorList d = Check.open(HALL);
        Check.acts(d, "when b; up c; end; when not b; down c; down a; end; when b; up c; end;");
        Check.given("act", d, d.act(), 3 + 3);
        acted(d, "when", 2, 6, 0, 0);
        DoorList e = Check.open(HALL);
        Check.acts(e, "until a; up c; end; until b; in 1 1; end; until not b; out 1 1; end; until zed; end;");
        Check.given("act", e, e.act(), 1 + 1 + 1 + 1 + 1 + 1);
        acted(e, "until", 2, 12, 0, 0);
        DoorList f = Check.open(HALL);
        Check.acts(f, "until zed; in 1 1; end; until not zed; up c; end;");
        Check.given("at most 20 times", f, f.act(), 22);
        acted(f, "until nobody", 9, 54, 0, 0);
        DoorList g = Check.open("name a; sort 1 order a;");
        Check.acts(g, "down a; when not a; up a; end; when a; down a; end; until a; up a; end;");
        Check.given("none stands in between", g, g.act(), 1 + 2 + 2 + 2);
        Check.given("a stands", g, g.wins(), 0);
    }

    private static void cutAtTwoHundred() {
        DoorList d = Check.open(HALL);
        Check.acts(d, "loop 9; loop 9; spend 1; spend 1; end; end; spend 1; loop 9; spend 1; end; spend 1; spend 1;");
        // 1 + 9 * 19 = 172, 173, 174, 183, 185
        Check.given("all of them", d, d.act(), 185);
        acted(d, "all of them", 0, 0, 162 + 1 + 9 + 2, 0);
        String most = "loop 9; loop 9; spend 1; spend 1; end; end; loop 9; loop 2; end; end; ";
        // 172 + 1 + 9 = 182
        Check.acts(d, most + "loop 9; spend 1; end; loop 6; spend 0; end; spend 1;");
        Check.given("just 200", d, d.act(), 200);
        acted(d, "just 200", 0, 0, 162 + 9 + 1, 0);
        Check.acts(d, most + "loop 9; spend 1; end; loop 7; spend 0; end;");
        Check.given("just 200 and ends", d, d.act(), 200);
        acted(d, "just 200 and ends", 0, 0, 162 + 9, 0);
        Check.acts(d, most + "loop 9; spend 1; end; loop 8; spend 0; end;");
        Check.given("a round too many", d, d.act(), 200);
        acted(d, "a round too many", 0, 0, 162 + 9, 1);
        Check.acts(d, most + "loop 9; spend 1; end; loop 7; spend 0; end; spend 1;");
        Check.given("a step too many", d, d.act(), 200);
        acted(d, "a step too many", 0, 0, 162 + 9, 1);
    }

    private static void actedRefuses() {
        DoorList d = new DoorList();
        Check.refused("acted(4)", d, d.acted(4), 5);
        Check.refused("acted(-1)", d, d.acted(-1), 5);
        Check.refused("acted(0)", d, d.acted(0), 8);
        Check.given("act of nothing", d, d.act(), 0);
        acted(d, "nothing", 0, 0, 0, 0);
    }

    private static void marks() {
        DoorList d = Check.open(HALL, "runs;");
        Check.refused("none yet", d, d.back(), 8);
        Check.given("first mark", d, d.mark(), 1);
        d.stand(2, true);
        d.voters(0, 0, 7);
        Check.rule(d, "pairs; first;");
        Check.given("second mark", d, d.mark(), 2);
        Check.hall(d, "name z;");
        d.rule(0);
        Check.given("third mark", d, d.mark(), 3);
        Check.refused("a fourth", d, d.mark(), 7);
        Check.fill(d, 0, 5);
        Check.acts(d, "up zed; up zed;");
        Check.hall(d, "name q; name r;");
        Check.given("back to z", d, d.back(), 2);
        Check.given("one name", d, d.many(0), 1);
        Check.given("no clauses", d, d.many(3), 0);
        Check.given("back to the second", d, d.back(), 1);
        Check.given("c stands", d, d.many(4), 7);
        Check.given("voters", d, d.sort(0, 1), 7);
        Check.given("clauses", d, d.many(3), 2);
        Check.given("a mark again", d, d.mark(), 2);
        Check.given("and back", d, d.back(), 1);
        Check.given("back to the first", d, d.back(), 0);
        Check.given("a and b stand", d, d.many(4), 3);
        Check.given("voters", d, d.sort(0, 0), 3);
        Check.given("clauses", d, d.many(3), 1);
        Check.refused("no more", d, d.back(), 8);
        Check.given("trays stay", d, d.read(0, 0), 5);
        Check.given("acts stay", d, d.act(), 2);
        Check.acts(d, "up c;");
        d.act();
        Check.given("names of the hall that came back", d, d.many(4), 7);
    }
}
