/** Promises 3, 4 and 30 to 37: PARTED, COUSIN, ALIKE, GAME, DOUBT, SELDOM. */
public final class SidesTest {
    public static void main(String[] args) {
        parted();
        partingRefuses();
        cousins();
        alike();
        game();
        gameRefuses();
        doubt();
        doubtRefuses();
        seldom();
        seldomRefuses();
        Check.end("SidesTest");
    }

    private static void parted() {
        // all together a wins; b beats a if they two are left
        DoorList d = Check.open("name a; name b; name c; sort 4 order a b c; sort 3 order b c a; sort 2 order c b a;");
        Check.given("a wins", d, d.wins(), 0);
        Check.given("one hall is empty", d, d.parted(0), 0);
        Check.given("the other is", d, d.parted(7), 0);
        Check.given("a against b", d, d.parted(1), 1);
        Check.given("a against b", d, d.parted(6), 1);
        Check.given("a against c", d, d.parted(3), 2);
        Check.given("b against a", d, d.parted(2), 1);
        Check.given("least set for a", d, d.parting(0), 0);
        Check.given("least set for b", d, d.parting(1), 1);
        Check.given("least set for c", d, d.parting(2), 3);
        Check.refused("a set with others", d, d.parted(8), 2);
        Check.refused("-1", d, d.parted(-1), 2);
        d.stand(2, false);
        Check.refused("c can't", d, d.parting(2), 9);
        d.voters(0, 0, 0);
        d.voters(1, 0, 0);
        d.voters(2, 0, 0);
        Check.refused("nobody is in: none is sent", d, d.parted(3), 8);
        Check.given("though one wins by ties", d, d.wins(), 0);
        d.stand(0, false);
        d.stand(1, false);
        Check.refused("none stands", d, d.parted(1), 8);
        Check.refused("2 is ahead", d, d.parted(8), 2);
        Check.refused("none by parting", d, d.parting(0), 9);
    }

    private static void partingRefuses() {
        StringBuilder text = new StringBuilder("name a; name b;");
        for (int i = 0; i < 12; i++) {
            text.append(" sort 1 order a b;");
        }
        DoorList d = Check.open(text.toString());
        Check.given("12 sorts", d, d.parting(0), 0);
        Check.refused("never", d, d.parting(1), 9);
        Check.refused("name 2", d, d.parting(2), 2);
        Check.refused("name -1", d, d.parting(-1), 2);
        for (int i = 12; i < 20; i++) {
            text.append(" sort 1 order b a;");
        }
        DoorList e = Check.open(text.toString());
        Check.refused("20 sorts", e, e.parting(0), 7);
        Check.refused("2 is ahead", e, e.parting(2), 2);
        Check.given("may be parted", e, e.parted((1 << 20) - 1), 0);
        Check.given("may be parted", e, e.parted(1 << 19), 0);
        Check.refused("sort 20 not", e, e.parted(1 << 20), 2);
    }

    private static void cousins() {
        // c takes from a, so that b wins; d takes all; e takes nothing
        DoorList d = Check.open("name a; name b; name c off; name d off; name e off; "
                + "sort 3 order d c a b e; sort 2 order d a b c e; sort 4 order b d a c e;");
        Check.given("a wins", d, d.wins(), 0);
        Check.given("c alone", d, d.cousins(), 4);
        d.stand(2, true);
        Check.given("b wins", d, d.wins(), 1);
        Check.given("no cousin of b", d, d.cousins(), 0);
        Check.given("nothing is changed", d, d.many(4), 7);
        d.stand(0, false);
        d.stand(1, false);
        d.stand(2, false);
        Check.refused("none wins", d, d.cousins(), 8);
    }

    private static void alike() {
        DoorList d = Check.open("name a; name b; name c; name x off; "
                + "sort 1 order a x b c; sort 2 order a c b x; sort 4 out 8 order x c b a;");
        Check.given("x does not stand", d, d.alike(0, 1), 5);
        Check.given("the other way round", d, d.alike(1, 0), 5);
        Check.given("b and c", d, d.alike(1, 2), 7);
        Check.given("one that does not stand", d, d.alike(0, 3), 1);
        Check.given("c and x", d, d.alike(2, 3), 4);
        d.stand(3, true);
        Check.given("x stands between", d, d.alike(0, 1), 4);
        Check.refused("one and the same", d, d.alike(1, 1), 2);
        Check.refused("name 4", d, d.alike(4, 1), 2);
        Check.refused("name -1", d, d.alike(1, -1), 2);
    }

    private static void game() {
        DoorList d = Check.open("name a; name b; name c off; name d off; "
                + "sort 3 order c a b d; sort 2 order d b a c; sort 2 order b a c d; ties a b c d;");
        Check.given("b wins", d, d.wins(), 1);
        Check.refused("none yet", d, d.opening(), 8);
        Check.given("a by taking b down", d, d.game(0, 2, 0, 1), 1);
        Check.given("that is first", d, d.opening(), 1);
        Check.given("the other one takes down a", d, d.game(0, 2, 1, 1), 0);
        Check.given("the opening stays", d, d.opening(), 1);
        Check.given("b as it is", d, d.game(1, 15, 0, 3), 1);
        Check.given("nothing", d, d.opening(), -1);
        Check.given("b against the one who takes it down", d, d.game(1, 0, 2, 3), 0);
        // a parity of moves: the other one has the last word over b, so a must be safe without it too
        Check.given("d for the one, b for the other", d, d.game(0, 8, 2, 1), 1);
        Check.given("d is put up first", d, d.opening(), 3);
        Check.given("nothing is changed", d, d.many(4), 3);
        // a wins alone, beside x, beside both: but not beside y, and x is not the one's to move
        DoorList f = Check.open("name a; name x off; name y off; sort 2 order x y a; sort 2 order y a x; "
                + "sort 3 order a y x;");
        for (int turns = 1; turns <= 3; turns++) {
            Check.given("only the other one moves", f, f.game(0, 0, 6, turns), 0);
            Check.given("x for the one", f, f.game(0, 2, 4, turns), 1);
        }
        DoorList e = Check.open("name a; name b off; name c off; sort 2 order b a c; sort 1 order c a b;");
        Check.given("b needs one move", e, e.game(1, 6, 0, 1), 1);
        Check.given("b is put up", e, e.opening(), 1);
        Check.given("with two turns it may wait", e, e.game(1, 6, 0, 2), 1);
        Check.given("none is ahead of all", e, e.opening(), -1);
        Check.given("c needs a down, one turn", e, e.game(2, 7, 0, 1), 0);
        Check.given("two turns", e, e.game(2, 7, 0, 2), 1);
        Check.given("the least name first", e, e.opening(), 0);
    }

    private static void gameRefuses() {
        DoorList d = Check.open("name a; name b; sort 1 order a b;");
        Check.refused("name 2", d, d.game(2, 0, 0, 1), 2);
        Check.refused("name -1", d, d.game(-1, 0, 0, 1), 2);
        Check.refused("mine with others", d, d.game(0, 4, 0, 1), 2);
        Check.refused("others with others", d, d.game(0, 0, -1, 1), 2);
        Check.refused("a common name", d, d.game(0, 1, 3, 9), 2);
        Check.refused("0 turns", d, d.game(0, 1, 2, 0), 5);
        Check.refused("4 turns", d, d.game(0, 1, 2, 4), 5);
        Check.refused("no opening", d, d.opening(), 8);
    }

    private static void doubt() {
        DoorList d = Check.open("name a; name b; sort 1 order a b; sort 1 order b a; ties b a;");
        Check.fill(d, 0, 8, 4);
        // a wins if it votes alone: 8/16 * 12/16
        Check.fraction("a", d, d.doubt(0, 0), 3, 8);
        Check.fraction("b", d, d.doubt(0, 1), 5, 8);
        Check.fill(d, 0, 16, 0, 99);
        Check.fraction("surely", d, d.doubt(0, 0), 1, 1);
        Check.fraction("never", d, d.doubt(0, 1), 0, 1);
        Check.given("nothing is changed", d, d.many(2), 2);
        d.voters(0, 12, 0);
        d.voters(1, 0, 0);
        Check.fill(d, 0, 1, 1);
        Check.fraction("one of twelve comes", d, d.doubt(0, 0), 281474976710656L - 129746337890625L, 281474976710656L);
        d.voters(0, 0, 0);
        Check.fraction("nobody is in", d, d.doubt(0, 1), 1, 1);
        d.stand(0, false);
        d.stand(1, false);
        Check.fraction("none stands", d, d.doubt(0, 1), 0, 1);
        StringBuilder text = new StringBuilder("name a; name b;");
        for (int i = 0; i < 20; i++) {
            text.append(i < 12 ? " sort 1 order a b;" : " sort 0 order b a;");
        }
        DoorList e = Check.open(text + " ties b a;");
        e.tray(0, 0, 20);
        for (int i = 0; i < 20; i++) {
            e.write(0, i, 8);
        }
        Check.fraction("twelve coins", e, e.doubt(0, 0), 4095, 4096);
        e.voters(11, 0, 0);
        e.voters(19, 1, 0);
        e.write(0, 19, 4);
        for (int i = 1; i < 11; i++) {
            e.write(0, i, 0);
        }
        // b wins if the last sort votes, or none does
        Check.fraction("the last sort counts", e, e.doubt(0, 0), 3, 8);
    }

    private static void doubtRefuses() {
        DoorList d = Check.open("name a; name b; sort 12 order a b; sort 1 order b a;");
        Check.refused("tray 4", d, d.doubt(4, 9), 1);
        Check.refused("name 2", d, d.doubt(0, 2), 2);
        Check.refused("missing", d, d.doubt(0, 1), 3);
        Check.fill(d, 0, 17);
        Check.refused("one of two", d, d.doubt(0, 1), 4);
        Check.fill(d, 0, 16, 17);
        Check.refused("17", d, d.doubt(0, 1), 5);
        Check.fill(d, 0, -1, 0);
        Check.refused("-1", d, d.doubt(0, 1), 5);
        Check.fill(d, 0, 0, 0);
        Check.refused("13 voters", d, d.doubt(0, 1), 7);
        d.voters(1, 0, 9);
        Check.fraction("12", d, d.doubt(0, 0), 1, 1);
        d.voters(1, 1, 9);
        d.doubt(0, 1);
        Check.due("the fraction stays: top", d.top(), 1);
        Check.due("bottom", d.bottom(), 1);
    }

    private static void seldom() {
        DoorList d = Check.open("name a; name b; sort 3 order a b; sort 2 order b a; ties b a;");
        Check.fraction("none struck", d, d.seldom(0, 0), 1, 1);
        // one struck: a stays ahead unless it is one of its three
        Check.fraction("one struck", d, d.seldom(0, 1), 2, 5);
        // two struck: a wins with (0, 2) and (1, 1): 1 + 6 of 10
        Check.fraction("two struck", d, d.seldom(0, 2), 7, 10);
        Check.fraction("b then", d, d.seldom(1, 2), 3, 10);
        Check.fraction("all struck", d, d.seldom(0, 5), 0, 1);
        Check.given("nobody is gone", d, d.many(2), 5);
        d.voters(0, 50, 0);
        d.voters(1, 49, 0);
        // a stays ahead if no more of its own are struck than of the others: 6 and 6, 5 and 7 ..
        java.math.BigInteger good = java.math.BigInteger.ZERO;
        for (int k = 0; k <= 6; k++) {
            good = good.add(choose(50, k).multiply(choose(49, 12 - k)));
        }
        java.math.BigInteger all = choose(99, 12);
        java.math.BigInteger common = good.gcd(all);
        Check.fraction("99 voters", d, d.seldom(0, 12), good.divide(common).longValueExact(),
                all.divide(common).longValueExact());
    }

    private static java.math.BigInteger choose(int n, int k) {
        java.math.BigInteger ways = java.math.BigInteger.ONE;
        for (int i = 0; i < k; i++) {
            ways = ways.multiply(java.math.BigInteger.valueOf(n - i)).divide(java.math.BigInteger.valueOf(i + 1));
        }
        return ways;
    }

    private static void seldomRefuses() {
        DoorList d = Check.open("name a; name b; sort 3 order a b; sort 2 order b a;");
        Check.refused("name 2", d, d.seldom(2, 99), 2);
        Check.refused("-1", d, d.seldom(0, -1), 5);
        Check.refused("13", d, d.seldom(0, 13), 5);
        Check.refused("more than are in", d, d.seldom(0, 6), 5);
        d.voters(0, 98, 0);
        Check.refused("100 voters", d, d.seldom(0, 1), 7);
        Check.refused("5 is ahead", d, d.seldom(0, 13), 5);
        StringBuilder text = new StringBuilder("name a; name b;");
        for (int i = 0; i < 8; i++) {
            text.append(" sort 2 order a b;");
        }
        DoorList e = Check.open(text.toString());
        Check.fraction("8 sorts", e, e.seldom(0, 12), 1, 1);
        DoorList f = Check.open(text + " sort 0 order a b;");
        Check.refused("9 sorts", f, f.seldom(0, 1), 7);
    }
}
