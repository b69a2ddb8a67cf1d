/** ACTS, MARKS and promises 38 to 42 sentence by sentence, at their bounds. */
public final class ActsBoundsTest {
    private static final int MIN = Integer.MIN_VALUE;
    private static final int MAX = Integer.MAX_VALUE;
    private static final String[] KEYS = {"up", "down", "in", "out", "spend", "loop", "when", "until", "not", "end"};
    private static final String HALL = "name a cost 2; name b cost 3; name c off cost 4; sort 3 out 1 cost 5 order a b c; "
            + "sort 2 out 9 cost 6 order b a c; ties b a c;";

    public static void main(String[] args) {
        textOfThreeHundred();
        actsStatuses();
        steps();
        who();
        namesWhenTheyAreDone();
        upAndDown();
        inAndOut();
        spend();
        allIsFree();
        loop();
        when();
        until();
        faultsOneAndTwo();
        faultFour();
        faultFive();
        faultSix();
        doneOneByOne();
        atMostTwoHundred();
        act();
        acted();
        marks();
        markStatuses();
        backTakesAll();
        Check.end("ActsBoundsTest");
    }

    /** A text with a FAULT leaves the ACTS ahead. */
    private static void faulty(String text, int kind, int place) {
        DoorList d = Check.open(HALL);
        Check.acts(d, "down a; up c;");
        Check.fault("acts " + text, d, Check.acts(d, text), kind, place);
        Check.due("the tape is empty behind " + text, d.feed(0, 0, 0, 0, 0), 20);
        Check.given("the old ones stay", d, d.act(), 2);
        Check.given("and are done", d, d.many(4), 6);
    }

    private static DoorList taken(String text, int steps) {
        DoorList d = Check.open(HALL);
        Check.given("acts " + text, d, Check.acts(d, text), steps);
        Check.due("no fault of " + text, d.fault(0), 0);
        Check.due("no place of " + text, d.fault(1), -1);
        return d;
    }

    private static void done(String what, DoorList d, int steps, int changes, int cost, int left) {
        Check.given("act: " + what, d, d.act(), steps);
        Check.given("changes: " + what, d, d.acted(0), changes);
        Check.given("cost: " + what, d, d.acted(1), cost);
        Check.given("left: " + what, d, d.acted(2), left);
    }

    private static void textOfThreeHundred() {
        Doc.says("ACTS are a TEXT of at most 300 bytes, of such TOKENS: {STEP}.");
        DoorList d = new DoorList();
        Check.feedText(d, "up a;" + " ".repeat(289) + "down b;");
        Check.refused("301 bytes", d, d.acts(301), 5);
        Check.fault("300 bytes: the last STEP lacks its sign", d, d.acts(300), 2, 300);
        Check.feedText(d, "up a;" + " ".repeat(288) + "down b;");
        Check.given("300 bytes", d, d.acts(300), 2);
        Check.feedText(d, "up a;" + " ".repeat(288) + "down b;");
        Check.fault("299 bytes", d, d.acts(299), 2, 299);
        Check.feedText(d, " ".repeat(700));
        Check.refused("700 bytes", d, d.acts(700), 5);
        Check.given("300 blanks of them", d, d.acts(300), 0);
        for (int b = 0; b < 256; b++) {
            d = new DoorList();
            d.feed(b << 24, 0, 0, 0, 0);
            d.acts(1);
            boolean blank = b == 10 || b == 32;
            boolean begins = b >= 97 && b <= 122 || b >= 48 && b <= 57 || b == 59;
            Check.due("fault of byte " + b, d.fault(0), blank ? 0 : begins ? 2 : 1);
            Check.due("place of byte " + b, d.fault(1), blank ? -1 : 0);
        }
    }

    private static void actsStatuses() {
        Doc.says("The first n bytes of the tape (which is empty then, but for 5) are the ACTS: how many STEPS (5: above 300, too; "
                + "10: the old ones stay).");
        DoorList d = Check.open(HALL);
        Check.refused("1 of an empty tape", d, d.acts(1), 5);
        Check.feedText(d, "up c;down a;!!!!!!!!");
        for (int n : new int[] {-1, 21, 300, 301, MIN, MAX}) {
            Check.refused("acts " + n, d, d.acts(n), 5);
        }
        Check.given("none of these are acts", d, d.act(), 0);
        Check.given("the first 12 bytes", d, d.acts(12), 2);
        Check.refused("the rest is gone", d, d.acts(1), 5);
        Check.feedText(d, "up c;down a;!!!!!!!!");
        Check.given("the first 5 bytes", d, d.acts(5), 1);
        Check.given("one step", d, d.act(), 1);
        Check.given("0 of an empty tape", d, d.acts(0), 0);
        Check.given("no steps", d, d.act(), 0);
    }

    private static void steps() {
        Doc.says("STEP: up NAME ; or down NAME ; or in NUMBER NUMBER ; or out NUMBER NUMBER ; or spend NUMBER ; or loop NUMBER ; "
                + "{STEP} end ; or when WHO ; {STEP} end ; or until WHO ; {STEP} end ;");
        taken("", 0);
        taken("up a;", 1);
        taken("down a;", 1);
        taken("in 0 0;", 1);
        taken("out 0 0;", 1);
        taken("spend 0;", 1);
        taken("loop 1;end;", 1);
        taken("when a;end;", 1);
        taken("until a;end;", 1);
        taken("\nup\na\n;loop 2 ; down a; up a ; end ; ", 4);
        String[] whole = {"up a ;", "down a ;", "in 1 1 ;", "out 1 1 ;", "spend 1 ;", "loop 1 ; end ;", "when a ; end ;",
            "until not a ; end ;"};
        for (String text : whole) {
            for (int n = 1; n < text.length(); n++) {
                DoorList d = Check.open(HALL);
                Check.feedText(d, text);
                int got = d.acts(n);
                Check.due("the first " + n + " of " + text, got, -1);
                Check.due("its fault", d.fault(0), 2);
            }
        }
        faulty("up a b;", 2, 5);
        faulty("down a 1;", 2, 7);
        faulty("in 1;", 2, 4);
        faulty("out 1 1 1;", 2, 8);
        faulty("in a 1;", 2, 3);
        faulty("spend a;", 2, 6);
        faulty("spend 1 1;", 2, 8);
        faulty("loop a; end;", 2, 5);
        faulty("loop 1 1; end;", 2, 7);
        faulty("loop 1; end end;", 2, 12);
        faulty("when 1; end;", 2, 5);
        faulty("when a b; end;", 2, 7);
        faulty("up a;;", 2, 5);
    }

    private static void who() {
        Doc.says("WHO: NAME, or not NAME.");
        taken("when a; end; when not a; end; until a; end; until not a; end;", 4);
        faulty("when; end;", 2, 4);
        faulty("when not; end;", 2, 8);
        faulty("when not not a; end;", 2, 9);
        faulty("until a not; end;", 2, 8);
        faulty("up not a;", 2, 3);
        faulty("when abcdefghi; end;", 2, 5);
        taken("when abcdefgh; end; up z; down zzzzzzzz;", 3);
    }

    private static void namesWhenTheyAreDone() {
        Doc.says("NAMES are the HALL's when they are done (one that is none there: nothing is done, nobody is it).");
        DoorList d = new DoorList();
        Check.given("acts ahead of any hall", d, Check.acts(d, "up q; down r; when q; up r; end; when not q; in 0 1; end;"), 6);
        done("no hall", d, 5, 0, 0, 0);
        Check.hall(d, "name p; name q off; sort 0 out 9 order q p;");
        done("q is put up; by ties p wins", d, 5, 2, 2, 0);
        Check.given("q stands", d, d.many(4), 3);
        Check.hall(d, "name r; name q; sort 1 order q r;");
        done("r is taken down, q wins, r is put up", d, 5, 2, 2, 0);
        Check.given("both stand", d, d.many(4), 3);
        d = taken("up zed; down zed; when zed; up c; end; until not zed; up c; end;", 6);
        done("nobody is zed", d, 4, 0, 0, 0);
        d = taken("when not zed; up c; end; until zed; in 1 1; end;", 4);
        done("nobody is zed, twenty times", d, 23, 10, 4 + 9 * 6, 0);
    }

    private static void upAndDown() {
        Doc.says("up, down: if that can be;");
        DoorList d = taken("up a; up c; up c; down b; down b;", 5);
        done("up once, down once", d, 5, 2, 4 + 3, 0);
        Check.given("who stands", d, d.many(4), 5);
        done("nothing more", d, 5, 0, 0, 0);
        d = taken("down a; down b; down c;", 3);
        done("all down", d, 3, 2, 5, 0);
        Check.refused("none wins", d, d.wins(), 8);
    }

    private static void inAndOut() {
        Doc.says("in s n, out s n: n voters of SORT s (as many as there are).");
        int[][] rows = {{0, 0}, {1, 1}, {9, 9}, {10, 9}, {99, 9}};
        for (int[] row : rows) {
            DoorList d = taken("in 1 " + row[0] + ";", 1);
            done("in " + row[0], d, 1, row[1], 6 * row[1], 0);
            Check.given("in", d, d.sort(1, 0), 2 + row[1]);
            Check.given("out", d, d.sort(1, 1), 9 - row[1]);
            Check.given("the other sort stays", d, d.sort(0, 0), 3);
        }
        for (int many : new int[] {0, 1, 3, 4, 99}) {
            int gone = Math.min(many, 3);
            DoorList d = taken("out 0 " + many + ";", 1);
            done("out " + many, d, 1, gone, 5 * gone, 0);
            Check.given("in", d, d.sort(0, 0), 3 - gone);
            Check.given("out", d, d.sort(0, 1), 1 + gone);
        }
        DoorList d = taken("in 2 5; out 19 5;", 2);
        done("no such sorts there", d, 2, 0, 0, 0);
        // nor are those of a larger HALL ahead
        d = Check.open("name a;" + "sort 5 out 5 order a;".repeat(20));
        Check.hall(d, HALL);
        Check.acts(d, "in 2 5; out 2 5; in 3 1; out 19 1;");
        done("sorts of the hall ahead", d, 4, 0, 0, 0);
        d = Check.open("name a;" + "sort 99 out 99 order a;".repeat(20));
        Check.acts(d, "in 19 99; in 19 1; out 0 99; out 0 1;");
        done("the first and the last", d, 4, 198, 198, 0);
        Check.given("all of them in", d, d.sort(19, 0), 198);
        Check.given("all of them out", d, d.sort(0, 1), 198);
        Check.given("voters in", d, d.many(2), 99 * 20);
    }

    private static void spend() {
        Doc.says("spend n: so much (0 to 999) is laid by (0 at first); an up, down, in or out is done only as long as what it "
                + "costs can be paid of that (in and out one by one);");
        DoorList d = taken("up c; spend 4; up c;", 3);
        done("just enough, and 0 at first", d, 3, 1, 4, 0);
        d = taken("spend 3; up c;", 2);
        done("one too few", d, 2, 0, 0, 3);
        d = taken("spend 3; up c; down a; down b; spend 2; down b;", 6);
        done("what can be paid", d, 6, 2, 5, 0);
        d = taken("spend 17; in 1 9;", 2);
        done("two of nine", d, 2, 2, 12, 5);
        d = taken("spend 18; in 1 9;", 2);
        done("three of nine", d, 2, 3, 18, 0);
        d = taken("spend 14; out 0 3;", 2);
        done("two of three", d, 2, 2, 10, 4);
        d = taken("spend 999; loop 9; spend 999; end;", 3);
        done("much is laid by", d, 11, 0, 0, 9990);
        d = taken("spend 5; down a;", 2);
        done("once", d, 2, 1, 2, 3);
        d.stand(0, true);
        done("0 at first again", d, 2, 1, 2, 3);
        DoorList e = Check.open("name a cost 0; name b off cost 99; sort 5 cost 0 order a b;");
        Check.acts(e, "down a; out 0 5; up b; spend 0; up a; spend 98; up b; spend 1; up b;");
        done("what costs nothing is paid of nothing", e, 9, 8, 99, 0);
    }

    private static void allIsFree() {
        Doc.says("without any spend STEP in the text all is free.");
        DoorList d = taken("up c; in 1 9;", 2);
        done("free", d, 2, 10, 4 + 54, 0);
        d = taken("up c; in 1 9; spend 0;", 3);
        done("a spend at the end", d, 3, 0, 0, 0);
        d = taken("up c; when zed; spend 999; end;", 3);
        done("a spend that is never come to", d, 2, 0, 0, 0);
        d = taken("spend 1;", 1);
        Check.fault("a text with a fault", d, Check.acts(d, "up c"), 2, 4);
        done("the old ones stay", d, 1, 0, 0, 1);
        Check.acts(d, "up c;");
        done("free again", d, 1, 1, 4, 0);
    }

    private static void loop() {
        Doc.says("loop n (1 to 9): the STEPS up to its end are done n times.");
        for (int n = 1; n <= 9; n++) {
            DoorList d = taken("loop " + n + "; in 1 1; end; out 0 1;", 3);
            done("loop " + n, d, n + 2, n + 1, 6 * n + 5, 0);
        }
        faulty("loop 0; end;", 4, 5);
        faulty("loop 10; end;", 4, 5);
        DoorList d = taken("loop 3; loop 2; in 1 1; end; end;", 3);
        done("a loop in a loop", d, 1 + 3 + 6, 6, 36, 0);
        d = taken("loop 2; loop 2; loop 2; in 1 1; end; end; end;", 4);
        done("three loops", d, 1 + 2 + 4 + 8, 8, 48, 0);
        d = taken("loop 9; end;", 1);
        done("an empty loop", d, 1, 0, 0, 0);
    }

    private static void when() {
        Doc.says("when: they are done, if so it WINS (does not).");
        DoorList d = taken("when a; in 1 1; end; when b; in 1 2; end; when not a; in 1 4; end; when not b; out 0 1; end;", 8);
        // a has 3, b 2; with one more b goes ahead by ties, so the next two are done too, the last is not
        done("a wins, then b", d, 4 + 3, 7, 42, 0);
        // two are out still
        done("b wins, a does not", d, 4 + 2, 2, 12, 0);
        d = taken("down a; down b; when a; up a; end; when not a; up b; end;", 6);
        done("none wins: nobody is it", d, 5, 3, 2 + 3 + 3, 0);
        d = taken("when a; when a; when a; up c; end; end; end;", 4);
        done("three of them", d, 4, 1, 4, 0);
        d = taken("when b; when a; up c; end; up c; end; down a;", 5);
        done("all within are passed over", d, 2, 1, 2, 0);
    }

    private static void until() {
        Doc.says("until: they are done as long as it is not so, at most 20 times.");
        DoorList d = taken("until a; in 1 1; end;", 2);
        done("it is so: not once", d, 1, 0, 0, 0);
        d = taken("until b; in 1 1; end;", 2);
        done("once", d, 2, 1, 6, 0);
        for (int more : new int[] {18, 19, 20, 21, 30}) {
            // b goes ahead with as many as a
            DoorList e = Check.open("name a; name b; sort " + more + " order a b; sort 0 out 99 order b a; ties b a;");
            Check.acts(e, "until b; in 1 1; end; out 0 1;");
            int times = Math.min(more, 20);
            done("until behind by " + more, e, 1 + times + 1, times + 1, times + 1, 0);
        }
        d = taken("until not b; end;", 1);
        done("not b: it is so", d, 1, 0, 0, 0);
        d = taken("until not a; end;", 1);
        done("an empty one that never is", d, 1, 0, 0, 0);
        d = taken("loop 2; until zed; spend 1; end; end;", 3);
        done("twenty times each time it is come to", d, 1 + 2 * 21, 0, 0, 40);
        d = taken("until b; until not b; in 1 1; end; end;", 3);
        done("asked again at its end", d, 1 + 20, 0, 0, 0);
    }

    private static void faultsOneAndTwo() {
        Doc.says("FAULTS: 1, 2 as of a HALL (an end without a beginning; the text's end ahead of an end: 2; a WORD that is no NAME: "
                + "any of up, down, in, out, spend, loop, when, until, not, end).");
        faulty("up A;", 1, 3);
        faulty("in 0000 1;", 1, 3);
        faulty("in 0 0001;", 1, 5);
        faulty("spend 1000;", 1, 6);
        faulty("up a;!", 1, 5);
        faulty("end;", 2, 0);
        faulty("up a; end;", 2, 6);
        faulty("loop 2; end; end;", 2, 13);
        DoorList d = Check.open(HALL);
        Check.fault("three beginnings without ends", d, Check.acts(d, "loop 1; loop 1; loop 1;"), 2, 23);
        Check.fault("no beginning in this text", d, Check.acts(d, "end;"), 2, 0);
        Check.given("none is open still", d, Check.acts(d, "loop 1; loop 1; loop 1; end; end; end;"), 3);
        faulty("loop 2;", 2, 7);
        faulty("loop 2; up a;  ", 2, 15);
        faulty("when a; until b; end;", 2, 21);
        faulty("loop 1; end", 2, 11);
        faulty("go;", 2, 0);
        faulty("name a;", 2, 0);
        faulty("7;", 2, 0);
        for (String key : KEYS) {
            faulty("up " + key + ";", 2, 3);
            faulty("down " + key + ";", 2, 5);
            if (!key.equals("not")) {
                faulty("when " + key + "; end;", 2, 5);
                faulty("until " + key + "; end;", 2, 6);
            }
            faulty("when not " + key + "; end;", 2, 9);
            taken("up " + key + "s; down x" + key + ";", 2);
        }
        faulty("up abcdefghi;", 2, 3);
        faulty("down " + "z".repeat(200) + ";", 2, 5);
    }

    private static void faultFour() {
        Doc.says("4 a NUMBER that can't be (SORTS 0 to 19, voters 0 to 99).");
        taken("in 0 0; in 19 99; out 0 0; out 19 99; in 019 099;", 5);
        faulty("in 20 1;", 4, 3);
        faulty("in 999 1;", 4, 3);
        faulty("in 19 100;", 4, 6);
        faulty("out 20 1;", 4, 4);
        faulty("out 19 100;", 4, 7);
        faulty("in 20 100;", 4, 3);
        faulty("in 20 !", 4, 3);
        taken("spend 0; spend 999;", 2);
        taken("loop 1; end; loop 9; end; loop 009; end;", 3);
        faulty("loop 0; end;", 4, 5);
        faulty("loop 10; end;", 4, 5);
        faulty("loop 999", 4, 5);
    }

    private static void faultFive() {
        Doc.says("5 a beginning within three others (at its WORD).");
        String[] begin = {"loop 1;", "when a;", "until a;"};
        for (String first : begin) {
            for (String last : begin) {
                String three = first + begin[1] + begin[2];
                taken(three + "end;end;end;" + last + "end;", 4);
                faulty(three + last + "end;end;end;end;", 5, three.length());
                faulty(three + " " + last.substring(0, last.indexOf(' ')), 5, three.length() + 1);
                taken(three + "end;" + last + "end;end;end;", 4);
                faulty(three + "up a;" + last, 5, three.length() + 5);
            }
        }
        taken("loop 1;loop 1;loop 1;up a;in 0 1;spend 1;end;end;end;", 6);
    }

    private static void faultSix() {
        Doc.says("6 a 41st STEP (at its WORD; end is none).");
        taken("up a;".repeat(40), 40);
        faulty("up a;".repeat(40) + "up a;", 6, 200);
        faulty("up a;".repeat(40) + "  in", 6, 202);
        faulty("up a;".repeat(40) + "loop 0;", 6, 200);
        faulty("up a;".repeat(40) + "end;", 2, 200);
        faulty("up a;".repeat(40) + "go", 2, 200);
        faulty("up a;".repeat(40) + "!", 1, 200);
        String within = "loop 1;loop 1;loop 1;" + "up a;".repeat(37);
        taken(within + "end;end;end;", 40);
        faulty(within + "up a;", 6, within.length());
        faulty(within + "loop 1;", 5, within.length());
        faulty(within + "end;end;end;up a;", 6, within.length() + 12);
        DoorList d = taken("when b;end;".repeat(27), 27);
        done("ends are no STEPS", d, 27, 0, 0, 0);
    }

    private static void doneOneByOne() {
        Doc.says("DONE are STEPS one by one (loop, when, until count as one each time they are come to from ahead; end does not, and "
                + "leads back behind its loop, or asks its until again), at most 200.");
        DoorList d = taken("loop 3; when zed; up a; end; when not zed; spend 1; end; until not zed; spend 1; end; end;", 7);
        done("each time they are come to", d, 1 + 3 * (1 + 2 + 1), 0, 0, 3);
        d = taken("loop 2; until zed; spend 1; end; loop 3; spend 1; end; end;", 5);
        done("until and loop within a loop", d, 1 + 2 * (1 + 20 + 1 + 3), 0, 0, 46);
        // the until is asked again behind each round, on what stands then
        d = taken("until not a; down a; up a; in 1 1; end;", 4);
        done("asked again", d, 1 + 3, 3, 2 + 2 + 6, 0);
    }

    private static void atMostTwoHundred() {
        String nine = "loop 9; loop 9; spend 1; end; end; ";
        // 1 + 9 * 10 = 91 STEPS with 81 laid by
        for (int more = 0; more <= 9; more++) {
            DoorList d = taken(nine + nine + "loop 8; spend 1; end; " + "spend 1; ".repeat(more), 8 + more);
            int due = Math.min(200, 182 + 9 + more);
            done("more: " + more, d, due, 0, 0, 170 + Math.min(more, 9));
            Check.given("left to be done", d, d.acted(3), 0);
        }
        DoorList d = taken(nine + nine + "loop 8; spend 1; end; " + "spend 1; ".repeat(10), 18);
        done("a 201st", d, 200, 0, 0, 179);
        Check.given("a STEP was left", d, d.acted(3), 1);
        d = taken(nine + nine + "loop 8; spend 1; end; loop 8; spend 1; end;", 10);
        done("just 200, then an end", d, 200, 0, 0, 178);
        Check.given("an end is no STEP", d, d.acted(3), 0);
        d = taken(nine + nine + "loop 8; spend 1; end; loop 9; spend 1; end;", 10);
        done("an end that leads back", d, 200, 0, 0, 178);
        Check.given("a STEP was left", d, d.acted(3), 1);
        d = taken("loop 9; loop 9; loop 9; in 1 1; out 1 1; end; end; end;", 5);
        Check.given("200 of many", d, d.act(), 200);
        Check.given("a STEP was left", d, d.acted(3), 1);
        Check.given("again", d, d.act(), 200);
        Check.acts(d, "up a;");
        Check.given("one", d, d.act(), 1);
        Check.given("none was left", d, d.acted(3), 0);
        d = taken(nine + nine + "loop 8; spend 1; end; until zed; spend 1; end;", 10);
        done("an until that goes on", d, 200, 0, 0, 178);
        Check.given("a STEP was left", d, d.acted(3), 1);
        d = taken(nine + nine + "loop 8; spend 1; end; loop 1; loop 1; loop 1; up a; end; end; end; loop 4; spend 1; end;", 14);
        done("ends one behind the other", d, 200, 0, 0, 174);
        Check.given("none was left", d, d.acted(3), 0);
    }

    private static void act() {
        Doc.says("The ACTS are done: how many STEPS were.");
        DoorList d = new DoorList();
        Check.given("no acts", d, d.act(), 0);
        d = taken("up c; up c;", 2);
        Check.given("two, though one did nothing", d, d.act(), 2);
        Check.given("c stands", d, d.name(2, 0), 1);
        d.stand(2, false);
        Check.given("again", d, d.act(), 2);
        Check.given("c stands", d, d.name(2, 0), 1);
    }

    private static void acted() {
        Doc.says("Of act() latest, what 0: CHANGES done, 1: what they cost together (all, if free), 2: what is left of what was laid "
                + "by, 3: 1 if a STEP was left to be done, else 0 (5; 8: there was none).");
        DoorList d = Check.open(HALL);
        for (int what : new int[] {-1, 4, MIN, MAX}) {
            Check.refused("5 ahead of 8", d, d.acted(what), 5);
        }
        for (int what = 0; what < 4; what++) {
            Check.refused("there was none", d, d.acted(what), 8);
        }
        Check.acts(d, "up c; out 0 2;");
        Check.refused("acts() is no act()", d, d.acted(0), 8);
        d.act();
        int[] free = {3, 14, 0, 0};
        for (int what = 0; what < 4; what++) {
            Check.given("free " + what, d, d.acted(what), free[what]);
        }
        Check.acts(d, "spend 20; in 0 3;");
        Check.given("acts() leaves it", d, d.acted(0), 3);
        d.act();
        int[] paid = {3, 15, 5, 0};
        for (int what = 0; what < 4; what++) {
            Check.given("paid " + what, d, d.acted(what), paid[what]);
        }
        for (int what : new int[] {-1, 4, MIN, MAX}) {
            Check.refused("acted " + what, d, d.acted(what), 5);
        }
        Check.hall(d, "");
        Check.given("another hall leaves it", d, d.acted(1), 15);
        d.acts(0);
        d.act();
        for (int what = 0; what < 4; what++) {
            Check.given("nothing " + what, d, d.acted(what), 0);
        }
    }

    private static void marks() {
        Doc.says("MARKS, at most 3: the HALL with who STANDS and is IN, the RULE are kept as they are; all is taken back to the latest "
                + "MARK, which is gone then.");
        DoorList d = Check.open(HALL, "runs;");
        for (int mark = 1; mark <= 3; mark++) {
            d.voters(0, mark, 10 * mark);
            d.stand(2, mark == 2);
            Check.rule(d, "runs;".repeat(mark));
            Check.given("mark " + mark, d, d.mark(), mark);
        }
        d.voters(0, 99, 99);
        Check.refused("a fourth", d, d.mark(), 7);
        Check.given("is not taken", d, d.sort(0, 0), 99);
        for (int mark = 3; mark >= 1; mark--) {
            d.stand(0, false);
            Check.hall(d, "name q;");
            d.rule(0);
            Check.given("back from " + mark, d, d.back(), mark - 1);
            Check.given("in", d, d.sort(0, 0), mark);
            Check.given("out", d, d.sort(0, 1), 10 * mark);
            Check.given("who stands", d, d.many(4), mark == 2 ? 7 : 3);
            Check.given("clauses", d, d.many(3), mark);
            Check.given("names", d, d.many(0), 3);
            Check.given("costs", d, d.name(2, 1), 4);
            Check.given("ties", d, d.name(1, 2), 0);
            Check.given("orders", d, d.order(1, 0), 1);
        }
        Check.refused("none is left", d, d.back(), 8);
    }

    private static void markStatuses() {
        Doc.says("A MARK more: how many there are (7).");
        Doc.says("All is taken back to the latest MARK: how many there are left (8).");
        DoorList d = new DoorList();
        Check.refused("none", d, d.back(), 8);
        Check.given("of an empty hall", d, d.mark(), 1);
        Check.hall(d, HALL);
        Check.given("back", d, d.back(), 0);
        Check.given("an empty hall", d, d.many(0), 0);
        Check.refused("which is gone then", d, d.back(), 8);
        for (int mark = 1; mark <= 3; mark++) {
            Check.given("mark", d, d.mark(), mark);
        }
        Check.refused("one too many", d, d.mark(), 7);
        Check.refused("one too many again", d, d.mark(), 7);
        Check.given("back", d, d.back(), 2);
        Check.given("room again", d, d.mark(), 3);
        Check.refused("and full again", d, d.mark(), 7);
        for (int left = 2; left >= 0; left--) {
            Check.given("back", d, d.back(), left);
        }
        Check.refused("none", d, d.back(), 8);
        Check.refused("none again", d, d.back(), 8);
    }

    private static void backTakesAll() {
        DoorList d = Check.open(HALL);
        d.mark();
        Check.acts(d, "down a; up c; in 1 5; out 0 2;");
        d.act();
        Check.given("acts are taken back", d, d.back(), 0);
        Check.given("who stands", d, d.many(4), 3);
        Check.given("in", d, d.many(2), 5);
        Check.given("the acts are there still", d, d.act(), 4);
        Check.given("what was acted too", d, d.acted(0), 9);
        // a mark is as it was, also when the hall is changed behind it and taken back twice
        DoorList e = Check.open(HALL);
        e.mark();
        e.mark();
        e.stand(0, false);
        e.back();
        e.stand(1, false);
        Check.given("back", e, e.back(), 0);
        Check.given("who stands", e, e.many(4), 3);
    }
}
