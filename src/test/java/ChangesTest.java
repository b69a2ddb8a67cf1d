/** Promises 25 to 29: the FEWEST and the CHEAPEST CHANGES, what they were, how SAFE who WINS is. */
public final class ChangesTest {
    public static void main(String[] args) {
        names();
        namesRefuses();
        people();
        peopleRows();
        peopleRefuses();
        foundAndMoved();
        safe();
        Check.end("ChangesTest");
    }

    private static void namesFound(DoorList d, String what, int got, int many, int cost, int set) {
        Check.given(what, d, got, many);
        Check.given("cost of " + what, d, d.found(0), cost);
        Check.given("set of " + what, d, d.found(1), set);
    }

    private static void names() {
        // a wins; without it b; d off takes from a
        DoorList d = Check.open("name a cost 9; name b; name c cost 2; name d off cost 3; "
                + "sort 4 order d a b c; sort 3 order b c a d; sort 2 order c b a d;");
        Check.given("a wins", d, d.wins(), 0);
        namesFound(d, "b by fewest", d.names(1, true, 3, false), 1, 2, 4);
        namesFound(d, "b by taking down", d.names(1, true, 2, false), 1, 2, 4);
        namesFound(d, "not a, cheapest", d.names(0, false, 3, true), 1, 1, 2);
        namesFound(d, "d", d.names(3, true, 1, false), 1, 3, 8);
        namesFound(d, "a as it is", d.names(0, true, 3, false), 0, 0, 0);
        namesFound(d, "c does not", d.names(2, false, 3, true), 0, 0, 0);
        Check.refused("b by putting up", d, d.names(1, true, 1, false), 9);
        d.stand(0, false);
        d.stand(1, false);
        d.stand(2, false);
        namesFound(d, "none stands", d.names(1, true, 3, false), 1, 1, 2);
        namesFound(d, "not to win needs nobody", d.names(1, false, 3, false), 0, 0, 0);
        // of several as cheap the least set
        DoorList e = Check.open("name a; name b cost 0; name c cost 0; sort 1 order a b c;");
        namesFound(e, "fewest of equals", e.names(0, false, 2, false), 1, 1, 1);
        namesFound(e, "cheapest leaves idle names", e.names(0, true, 3, true), 0, 0, 0);
        DoorList f = Check.open("name a cost 9; name b off cost 4; name c off cost 4; name d; "
                + "sort 2 order b a c d; sort 2 order c a b d; sort 3 order d a b c;");
        namesFound(f, "fewest", f.names(0, false, 1, false), 1, 4, 2);
        namesFound(f, "cheapest, the first of equals", f.names(0, false, 1, true), 1, 4, 2);
        DoorList g = Check.open("name a cost 9; name b cost 1; name c cost 1; name d; "
                + "sort 3 order a b c d; sort 4 order d a b c; sort 1 order b d a c; sort 1 order c d a b; ties a b c d;");
        Check.given("d wins", g, g.wins(), 3);
        namesFound(g, "no way for a but d down", g.names(0, true, 3, false), 1, 1, 8);
        DoorList i = Check.open("name a cost 9; name x; name b off; name c off; sort 1 order b a x c; "
                + "sort 1 order c a x b; sort 3 order a x b c; sort 4 order x a b c;");
        namesFound(i, "x by one change", i.names(1, true, 3, false), 1, 9, 1);
        namesFound(i, "x cheaper, by two", i.names(1, true, 3, true), 2, 2, 12);
        // the same with the dear way behind the cheap one, and as dear as it
        for (int cost = 2; cost <= 9; cost += 7) {
            DoorList k = Check.open("name b off; name c off; name x; name a cost " + cost + "; sort 1 order b a x c; "
                    + "sort 1 order c a x b; sort 3 order a x b c; sort 4 order x a b c; ties a x b c;");
            namesFound(k, "x by one change", k.names(2, true, 3, false), 1, cost, 8);
            namesFound(k, "x cheapest", k.names(2, true, 3, true), cost == 2 ? 1 : 2, 2, cost == 2 ? 8 : 3);
        }
        DoorList h = Check.open("name a cost 9; name b cost 2; name c cost 2; "
                + "sort 4 order a b c; sort 3 order b c a; sort 2 order c b a;");
        namesFound(h, "c: fewest", h.names(2, true, 2, false), 1, 2, 2);
    }

    private static void namesRefuses() {
        DoorList d = Check.open("name a; sort 1 order a;");
        Check.refused("name 1", d, d.names(1, true, 0, false), 2);
        Check.refused("name -1", d, d.names(-1, true, 3, false), 2);
        for (int kinds : new int[] {0, 4, 7, -1, 12}) {
            Check.refused("kinds " + kinds, d, d.names(0, true, kinds, false), 5);
        }
        Check.refused("not to win by up", d, d.names(0, false, 1, false), 9);
        Check.refused("nothing found yet", d, d.found(0), 8);
    }

    private static void peopleFound(DoorList d, String what, int got, int many, int cost, int... row) {
        Check.given(what, d, got, many);
        Check.given("cost of " + what, d, d.found(0), cost);
        for (int i = 0; i < row.length; i++) {
            Check.given("sort " + i + " of " + what, d, d.moved(i), row[i]);
        }
        Check.refused("a sort more", d, d.moved(row.length), 8);
        Check.refused("a set of names", d, d.found(1), 8);
    }

    private static void people() {
        DoorList d = Check.open("name a; name b; sort 5 cost 3 order a b; sort 2 out 2 cost 1 order b a; "
                + "sort 1 out 9 cost 5 order b a;");
        peopleFound(d, "b by fewest", d.people(1, true, 12, 5, false), 3, 5, -1, 2, 0);
        peopleFound(d, "b by cheapest", d.people(1, true, 12, 5, true), 3, 5, -1, 2, 0);
        peopleFound(d, "b by in", d.people(1, true, 4, 5, false), 3, 7, 0, 2, 1);
        peopleFound(d, "b by out", d.people(1, true, 8, 5, false), 3, 9, -3, 0, 0);
        peopleFound(d, "a not", d.people(0, false, 4, 3, true), 3, 7, 0, 2, 1);
        Check.refused("at most 2", d, d.people(1, true, 12, 2, false), 9);
        peopleFound(d, "a as it is", d.people(0, true, 12, 0, false), 0, 0, 0, 0, 0);
    }

    private static void peopleRows() {
        // equals: the lesser change of sort 0 first
        DoorList d = Check.open("name a; name b; sort 1 out 1 order a b; sort 1 out 1 order a b; sort 1 out 2 order b a; "
                + "ties b a;");
        Check.given("a wins", d, d.wins(), 0);
        peopleFound(d, "b: the last sort comes in", d.people(1, true, 12, 5, false), 1, 1, 0, 0, 1);
        peopleFound(d, "b by out: sort 1, not 0", d.people(1, true, 8, 5, false), 1, 1, 0, -1, 0);
        // one size: in ahead of out
        DoorList e = Check.open("name a; name b; sort 1 out 1 order b a; sort 1 out 1 order a b; ties a b;");
        peopleFound(e, "b by one", e.people(1, true, 12, 5, false), 1, 1, 0, -1);
        DoorList f = Check.open("name a; name b; name c; sort 2 out 2 order c b a; sort 3 order a b c; ties a b c;");
        peopleFound(f, "c by in", f.people(2, true, 4, 5, false), 2, 2, 2, 0);
        peopleFound(f, "c", f.people(2, true, 12, 5, false), 2, 2, 0, -2);
        // more changes may cost less
        DoorList g = Check.open("name a; name b; sort 3 cost 0 order a b; sort 2 out 1 cost 9 order b a; ties b a;");
        peopleFound(g, "b by one, the cheaper", g.people(1, true, 12, 5, false), 1, 0, -1, 0);
        DoorList h = Check.open("name a; name b; sort 4 cost 9 order a b; sort 2 out 5 cost 1 order b a; "
                + "sort 0 out 5 cost 0 order b a; ties b a;");
        peopleFound(h, "b by two", h.people(1, true, 12, 5, false), 2, 0, 0, 0, 2);
        DoorList i = Check.open("name a; name b; name c; sort 3 cost 5 order a b c; sort 0 out 1 cost 9 order b a c; "
                + "sort 2 order b c a; sort 2 cost 1 order c b a;", "runs;");
        Check.given("b wins the runs", i, i.wins(), 1);
        // more than 99 may be in when more come
        DoorList j = Check.open("name a; name b; sort 99 out 2 order a b; sort 99 order b a; ties b a;");
        peopleFound(j, "a by a hundredth", j.people(0, true, 4, 5, false), 1, 1, 1, 0);
    }

    private static void peopleRefuses() {
        DoorList d = Check.open("name a; sort 1 order a;");
        Check.refused("name 1", d, d.people(1, true, 9, 9, false), 2);
        for (int kinds : new int[] {0, 1, 3, 5, 13, -4, 16}) {
            Check.refused("kinds " + kinds, d, d.people(0, true, kinds, 5, false), 5);
        }
        Check.refused("at most -1", d, d.people(0, true, 4, -1, false), 5);
        Check.refused("at most 6", d, d.people(0, true, 4, 6, false), 5);
        StringBuilder text = new StringBuilder("name a; name b;");
        for (int i = 0; i < 12; i++) {
            text.append(" sort 1 out 9 order a b;");
        }
        DoorList e = Check.open(text.toString());
        Check.refused("12 sorts may be searched", e, e.people(1, true, 12, 3, false), 9);
        Check.given("and asked for safety", e, e.safe(4), 5);
        DoorList g = Check.open(text.toString().replaceFirst("order a b;$", "order b a;"), "runs;");
        for (int i = 0; i < 11; i++) {
            g.voters(i, i == 0 ? 2 : 0, 0);
        }
        peopleFound(g, "b by the twelfth sort", g.people(1, true, 12, 2, true), 2, 2, 0, 0, 0, 0, 0, 0, 0, 0, 0, 0, 0, 2);
        DoorList f = Check.open(text + " sort 1 order b a;");
        Check.refused("13 not", f, f.people(1, true, 12, 3, false), 7);
        Check.refused("5 is ahead of 7", f, f.people(1, true, 12, 6, false), 5);
        Check.refused("nor asked for safety", f, f.safe(4), 7);
        Check.given("but of names", f, f.safe(3), 0);
    }

    private static void foundAndMoved() {
        DoorList d = Check.open("name a; name b cost 4; sort 2 cost 3 order a b; sort 1 out 2 cost 6 order b a; ties b a;");
        Check.refused("found(2)", d, d.found(2), 5);
        Check.refused("found(-1)", d, d.found(-1), 5);
        Check.refused("found(0)", d, d.found(0), 8);
        Check.refused("found(1)", d, d.found(1), 8);
        Check.refused("moved(0)", d, d.moved(0), 8);
        Check.given("people", d, d.people(1, true, 12, 5, false), 1);
        Check.given("cost", d, d.found(0), 3);
        Check.given("moved, STATUS tells it from NONE", d, d.moved(0), -1);
        Check.refused("moved(-1)", d, d.moved(-1), 8);
        Check.refused("names that find nothing", d, d.names(1, true, 1, false), 9);
        Check.given("change nothing", d, d.moved(0), -1);
        d.safe(3);
        d.safe(12);
        Check.given("safe changes nothing", d, d.moved(0), -1);
        Check.given("nor the cost", d, d.found(0), 3);
        Check.hall(d, "name z;");
        Check.given("a new hall changes nothing", d, d.moved(1), 0);
        Check.refused("sort 2 was none then", d, d.moved(2), 8);
        Check.given("names", d, d.names(0, true, 3, false), 0);
        Check.refused("no rows behind names", d, d.moved(0), 8);
        Check.given("a set now", d, d.found(1), 0);
    }

    private static void safe() {
        DoorList d = Check.open("name a; name b; name c off; name d off; "
                + "sort 4 out 1 order c d a b; sort 3 out 1 order b a c d; ties a b c d;");
        Check.given("a wins", d, d.wins(), 0);
        Check.given("by up: c takes all", d, d.safe(1), 0);
        Check.given("by down", d, d.safe(2), 0);
        Check.given("by in: a tie is a's", d, d.safe(4), 5);
        Check.given("by out", d, d.safe(8), 1);
        Check.given("by both: one in, one out", d, d.safe(12), 1);
        DoorList e = Check.open("name a; name b off; sort 3 out 5 order a b; sort 0 out 5 order b a;");
        Check.given("nobody by up", e, e.safe(1), 8);
        Check.given("a alone stands", e, e.safe(12), 5);
        e.stand(1, true);
        Check.given("four more make b win", e, e.safe(4), 3);
        e.voters(0, 4, 5);
        Check.given("five more", e, e.safe(4), 4);
        e.voters(0, 5, 5);
        Check.given("none within five", e, e.safe(4), 5);
        for (int kinds : new int[] {0, 5, 7, 15, -1, 16}) {
            Check.refused("kinds " + kinds, e, e.safe(kinds), 5);
        }
        e.stand(0, false);
        e.stand(1, false);
        Check.refused("none wins", e, e.safe(3), 8);
        Check.refused("5 is ahead", e, e.safe(0), 5);
    }
}
