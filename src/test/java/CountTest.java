/** Promises 19 to 24: who WINS by each kind of CLAUSE, who is LEFT, told CHANGES and their COST. */
public final class CountTest {
    private static final String FOUR = "name a; name b; name c; name d; "
            + "sort 5 order a d c b; sort 4 order b c d a; sort 3 order c d b a; sort 1 order d c b a; ";

    public static void main(String[] args) {
        first();
        points();
        runs();
        pairs();
        nearAndBar();
        clausesSift();
        noVoters();
        firstsAndBeats();
        told();
        toldRefuses();
        Check.end("CountTest");
    }

    private static void winner(String hall, String rule, int want) {
        DoorList d = Check.open(hall, rule);
        Check.given(rule + " in " + hall, d, d.wins(), want);
    }

    private static void leftBehind(String hall, String rule, int... want) {
        DoorList d = Check.open(hall, rule);
        for (int i = 0; i < want.length; i++) {
            Check.given(rule + " left " + i + " in " + hall, d, d.left(i), want[i]);
        }
    }

    private static void first() {
        winner(FOUR, "first;", 0);
        leftBehind(FOUR, "first;", 15, 1);
        String even = "name a; name b; name c; sort 2 order b a c; sort 2 order c a b; ";
        leftBehind(even, "first;", 7, 6);
        winner(even, "first;", 1);
        winner(even + "ties c a b;", "first;", 2);
        DoorList d = Check.open(FOUR);
        d.stand(0, false);
        Check.given("a is passed over: d has 6", d, d.wins(), 3);
        for (int i = 1; i < 4; i++) {
            d.stand(i, false);
        }
        Check.refused("none stands", d, d.wins(), 8);
        Check.given("none is left", d, d.left(1), 0);
    }

    private static void points() {
        // a 5*3 = 15; b 5*0 + 4*3 + 3*1 + 1*1 = 16; c 5*1 + 4*2 + 3*3 + 1*2 = 24; d 5*2 + 4*1 + 3*2 + 3 = 23
        winner(FOUR, "points 3 2 1;", 2);
        winner(FOUR, "points 3 2 1 0 0 0 0 99;", 2);
        winner(FOUR, "points 0 0 0 1;", 0);
        leftBehind(FOUR, "points 0;", 15, 15);
        leftBehind(FOUR, "points 99;", 15, 1);
        DoorList d = Check.open(FOUR, "points 3 2 1;");
        d.stand(2, false);
        // without c: a 15, b 5*1 + 4*3 + 3*2 + 2 = 25, d 5*2 + 4*2 + 3*3 + 3 = 30
        Check.given("places move up", d, d.wins(), 3);
    }

    private static void runs() {
        // firsts 5 4 3 1: d is out, c has 4 of 13; b and c have 4: by ties c is out; b has 8
        winner(FOUR, "runs;", 1);
        winner(FOUR + "ties d c b a;", "runs;", 2);
        winner(FOUR.replace("sort 5", "sort 9"), "runs;", 0);
        winner("name a; name b; sort 2 order a b; sort 2 order b a; ties b a;", "runs;", 1);
        leftBehind(FOUR, "runs;", 15, 2);
    }

    private static void pairs() {
        // c beats a 8:5, b 9:4, d 7:6
        winner(FOUR, "pairs;", 2);
        leftBehind(FOUR, "pairs;", 15, 4);
        String ring = "name a; name b; name c; sort 1 order a b c; sort 1 order b c a; sort 1 order c a b; ties c b a;";
        leftBehind(ring, "pairs;", 7, 7);
        winner(ring, "pairs;", 2);
        String half = "name a; name b; sort 1 order a b; sort 1 order b a;";
        leftBehind(half, "pairs;", 3, 3);
    }

    private static void nearAndBar() {
        // among the first two: a 5, b 4, c 4 + 3 + 1 = 8, d 5 + 3 + 1 = 9
        leftBehind(FOUR, "near 2;", 15, 8);
        leftBehind(FOUR, "near 1;", 15, 1);
        leftBehind(FOUR, "near 3;", 15, 12);
        leftBehind(FOUR, "near 8;", 15, 15);
        // 13 voters: 30 of a hundred are 3.9
        leftBehind(FOUR, "bar 30;", 15, 3);
        leftBehind(FOUR, "bar 99;", 15, 15);
        leftBehind(FOUR, "bar 0;", 15, 15);
        String four = "name a; name b; name c; sort 1 order a b c; sort 3 order b a c;";
        leftBehind(four, "bar 25;", 7, 3);
        leftBehind(four, "bar 26;", 7, 2);
        leftBehind(four, "bar 75;", 7, 2);
        leftBehind(four, "bar 76;", 7, 7);
    }

    private static void clausesSift() {
        // bar leaves a and b; then votes go to these alone: b has 8 of 13
        leftBehind(FOUR, "bar 30; first;", 15, 3, 2);
        leftBehind(FOUR, "near 3; bar 50; pairs; runs;", 15, 12, 4, 4, 4);
        leftBehind(FOUR, "points 0; bar 0; near 8; points 0 0 0 1;", 15, 15, 15, 15, 1);
        leftBehind(FOUR, "points 0; bar 0; near 8; pairs;", 15, 15, 15, 15, 4);
        leftBehind(FOUR, "points 0; bar 0; near 8; bar 30;", 15, 15, 15, 15, 3);
        String eight = "name a;name b;name c;name d;name e;name f;name g;name h;";
        leftBehind(eight + "sort 1 order a b c d e f g h;", "near 8; points 0 0 0 0 0 0 0 5;", 255, 255, 128);
        leftBehind(eight + "sort 1 order a b c d e f g h;", "near 7;points 0;bar 0;points 0 0 0 0 0 0 1;", 255, 127,
                127, 127, 64);
        leftBehind(eight + "sort 1 order a b c d e f g h;", "bar 0;bar 0;bar 0;points 0 0 0 0 0 0 0 9;", 255, 255,
                255, 255, 128);
        DoorList e = Check.open(FOUR, "runs; pairs; runs; pairs;");
        Check.rule(e, "bar 5; first; points 1; near 1;");
        Check.given("nothing is left of the rule ahead", e, e.wins(), 0);
        DoorList d = Check.open(FOUR, "bar 30; first;");
        Check.refused("left(3)", d, d.left(3), 5);
        Check.refused("left(-1)", d, d.left(-1), 5);
        d.stand(2, false);
        Check.given("left(0) is who stands", d, d.left(0), 11);
    }

    private static void noVoters() {
        String empty = "name a; name b; name c off; sort 0 order a b c; ties c b a;";
        for (String rule : new String[] {"first;", "points 3 1;", "runs;", "pairs;", "near 1;", "bar 50;", ""}) {
            winner(empty, rule, 1);
        }
        leftBehind(empty, "runs;", 3, 2);
        leftBehind(empty, "bar 50;", 3, 3);
    }

    private static void firstsAndBeats() {
        DoorList d = Check.open(FOUR);
        int[] firsts = {5, 4, 3, 1};
        for (int i = 0; i < 4; i++) {
            Check.given("firsts", d, d.firsts(i), firsts[i]);
        }
        Check.given("beats", d, d.beats(2, 0), 3);
        Check.given("beats", d, d.beats(0, 2), -3);
        Check.given("beats by 1", d, d.beats(2, 3), 1);
        Check.given("beats by -1", d, d.beats(3, 2), -1);
        d.stand(0, false);
        Check.given("a is passed over", d, d.firsts(3), 6);
        Check.refused("firsts of one that does not stand", d, d.firsts(0), 9);
        Check.given("beats asks all", d, d.beats(2, 0), 3);
        Check.refused("firsts(4)", d, d.firsts(4), 2);
        Check.refused("firsts(-1)", d, d.firsts(-1), 2);
        Check.refused("beats(1, 1)", d, d.beats(1, 1), 2);
        Check.refused("beats(4, 1)", d, d.beats(4, 1), 2);
        Check.refused("beats(1, -1)", d, d.beats(1, -1), 2);
    }

    private static void told() {
        DoorList d = Check.open("name a cost 5; name b; name c off cost 3; sort 3 out 1 cost 4 order a b c; "
                + "sort 2 out 9 cost 6 order b a c;");
        Check.fill(d, 0, 6, 6, 1, 0, 8, 3);
        int[] winners = {0, 0, 1, 1, 1, 1, 1};
        int[] costs = {0, 6, 12, 17, 22, 25, 29};
        for (int i = 0; i <= 6; i++) {
            Check.given("told " + i, d, d.told(0, i), winners[i]);
            Check.given("cost " + i, d, d.cost(0, i), costs[i]);
        }
        Check.given("nothing is changed", d, d.wins(), 0);
        Check.given("nobody came", d, d.many(2), 5);
        Check.fill(d, 1, 1, 5);
        Check.refused("all down", d, d.told(1, 2), 8);
        Check.given("has a cost", d, d.cost(1, 2), 6);
        Check.fill(d, 2, 2, 2);
        Check.given("the one that is out", d, d.cost(2, 1), 4);
        Check.refused("a second one", d, d.told(2, 2), 9);
    }

    private static void toldRefuses() {
        DoorList d = Check.open("name a; name b off; sort 1 order a b;");
        Check.refused("tray 4", d, d.told(4, -1), 1);
        Check.refused("missing", d, d.told(0, -1), 3);
        Check.fill(d, 0, 8, 0, 0);
        Check.refused("-1", d, d.told(0, -1), 5);
        Check.refused("21", d, d.told(0, 21), 5);
        Check.refused("4 of 3", d, d.told(0, 4), 4);
        Check.refused("name 2", d, d.told(0, 1), 5);
        Check.refused("name 2 has no cost", d, d.cost(0, 1), 5);
        Check.fill(d, 0, 0, 6);
        Check.refused("a stands: 9", d, d.told(0, 1), 9);
        Check.refused("but sort 1 is none: 5 first", d, d.told(0, 2), 5);
        Check.refused("of cost too", d, d.cost(0, 2), 5);
        for (long v : new long[] {-1, -4, 9, 7, 1L << 40, Long.MIN_VALUE, Long.MAX_VALUE}) {
            Check.fill(d, 0, v);
            Check.refused("told " + v, d, d.told(0, 1), 5);
        }
        for (long v : new long[] {0, 5, 2}) {
            Check.fill(d, 0, v);
            Check.refused("it can't be: " + v, d, d.told(0, 1), 9);
            Check.refused("no cost: " + v, d, d.cost(0, 1), 9);
        }
        Check.fill(d, 0, 3, 3);
        Check.given("goes out", d, d.cost(0, 1), 1);
        Check.refused("nobody is in", d, d.cost(0, 2), 9);
        d.tray(1, 0, 60);
        for (int i = 0; i < 20; i++) {
            d.write(1, i, i % 2 == 0 ? 4 : 5);
        }
        Check.given("20 changes", d, d.cost(1, 20), 20);
        Check.given("who wins then", d, d.told(1, 20), 0);
    }
}
