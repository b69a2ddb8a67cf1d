import java.math.BigInteger;
import java.util.ArrayList;
import java.util.Collections;
import java.util.List;
import java.util.Random;

/** Promises 10 to 40 on halls, rules and acts that are thrown up by a fixed seed, held against Model. */
public final class ModelTest {
    private static final Random RANDOM = new Random(20261118);
    private static final String[] WORDS = {"a", "bee", "c", "dodo", "first", "end", "g", "abcdefgh"};

    public static void main(String[] args) {
        for (int i = 0; i < 1500; i++) {
            oneHall();
        }
        for (int i = 0; i < 20000; i++) {
            oneText(i % 3);
        }
        for (int i = 0; i < 3000; i++) {
            oneAct();
        }
        Check.end("ModelTest");
    }

    private static int below(int n) {
        return RANDOM.nextInt(n);
    }

    private static String blank() {
        return below(12) == 0 ? "\n  " : " ";
    }

    // ---- texts

    private static String rowOf(int names) {
        List<String> row = new ArrayList<>(List.of(WORDS).subList(0, names));
        Collections.shuffle(row, RANDOM);
        return String.join(blank(), row);
    }

    private static String hallText(int names, int sorts, int most) {
        StringBuilder t = new StringBuilder();
        for (int i = 0; i < names; i++) {
            t.append("name ").append(WORDS[i]).append(below(3) == 0 ? " off" : "");
            t.append(below(2) == 0 ? " cost " + below(5) : "").append(";").append(blank());
        }
        int tiesAt = below(2) == 0 ? below(sorts + 1) : -1;
        for (int i = 0; i <= sorts; i++) {
            if (i == tiesAt) {
                t.append("ties ").append(rowOf(names)).append(";");
            }
            if (i < sorts) {
                t.append("sort ").append(below(most + 1));
                String out = below(2) == 0 ? " out " + below(4) : "";
                String cost = below(2) == 0 ? " cost " + below(5) : "";
                t.append(below(2) == 0 ? out + cost : cost + out);
                t.append(" order ").append(rowOf(names)).append(" ;");
            }
        }
        return t.toString();
    }

    private static String ruleText() {
        StringBuilder t = new StringBuilder();
        int clauses = below(10) == 0 ? 0 : 1 + below(3);
        for (int i = 0; i < clauses; i++) {
            switch (below(6)) {
                case 0 -> t.append("first;");
                case 1 -> {
                    t.append("points");
                    for (int k = 1 + below(5); k > 0; k--) {
                        t.append(blank()).append(below(6));
                    }
                    t.append(";");
                }
                case 2 -> t.append("runs;");
                case 3 -> t.append("pairs ;");
                case 4 -> t.append("near ").append(1 + below(4)).append(";");
                default -> t.append("bar ").append(below(50)).append(";");
            }
        }
        return t.toString();
    }

    private static String who() {
        return (below(2) == 0 ? "not " : "") + (below(6) == 0 ? "zed" : WORDS[below(4)]);
    }

    private static void steps(StringBuilder t, int depth, int many) {
        for (int i = 0; i < many && t.length() < 240; i++) {
            int kind = below(depth < 3 ? 8 : 5);
            switch (kind) {
                case 0 -> t.append("up ").append(WORDS[below(5)]).append(";");
                case 1 -> t.append("down ").append(WORDS[below(5)]).append(";");
                case 2 -> t.append("in ").append(below(4)).append(" ").append(below(4)).append(";");
                case 3 -> t.append("out ").append(below(4)).append(" ").append(below(4)).append(";");
                case 4 -> t.append(below(3) == 0 ? "spend " + below(9) + ";" : "up a;");
                default -> {
                    t.append(kind == 5 ? "loop " + (1 + below(9)) : (kind == 6 ? "when " : "until ") + who()).append(";");
                    steps(t, depth + 1, below(4));
                    t.append("end;").append(blank());
                }
            }
        }
    }

    private static String actsText() {
        StringBuilder t = new StringBuilder();
        steps(t, 0, 1 + below(7));
        return t.length() > 300 ? "up a;" : t.toString();
    }

    private static String harmed(String text) {
        StringBuilder t = new StringBuilder(text);
        String[] bits = {" off ", " cost ", ";", "1", " 100 ", "!", " name ", " a ", " sort ", " order ", "ties ", "",
            " end;", " not ", " loop 3;", "first;", " bee ", "\u00ff", "out 1 ", "until a;", "x", " 7"};
        for (int k = below(3); k >= 0; k--) {
            int from = below(t.length() + 1);
            int to = Math.min(t.length(), from + (below(2) == 0 ? 0 : below(6)));
            t.replace(from, to, bits[below(bits.length)]);
        }
        return t.length() > 300 ? t.substring(0, 300) : t.toString();
    }

    /** The same text to both, whole or harmed: the same answer, or the same FAULT at the same place. */
    private static void oneText(int what) {
        String good = what == 0 ? hallText(1 + below(4), below(3), 3) : what == 1 ? ruleText() : actsText();
        String text = below(8) == 0 ? good : harmed(good);
        if (what == 1 && text.length() > 200) {
            return;
        }
        DoorList d = new DoorList();
        Model m = new Model();
        int got = what == 0 ? Check.hall(d, text) : what == 1 ? Check.rule(d, text) : Check.acts(d, text);
        try {
            int want;
            if (what == 0) {
                m.readHall(text);
                want = m.names.size();
            } else if (what == 1) {
                want = m.readRule(text).size();
            } else {
                m.readActs(text);
                want = m.stepsRead();
            }
            Check.given(text, d, got, want);
            Check.due("fault of " + text, d.fault(0), 0);
            if (what == 0) {
                sameHall(text, d, m);
            }
        } catch (Model.Fault f) {
            Check.fault(text, d, got, f.kind, f.place);
        }
    }

    private static void sameHall(String what, DoorList d, Model m) {
        Check.due("names of " + what, d.many(0), m.names.size());
        Check.due("sorts of " + what, d.many(1), m.sorts.size());
        Check.due("voters of " + what, d.many(2), m.ballots().size());
        Check.due("standing of " + what, d.many(4), Model.bits(m.standing()));
        for (int i = 0; i < m.names.size(); i++) {
            Check.due("cost " + i + " of " + what, d.name(i, 1), m.names.get(i).cost);
            Check.due("ties " + i + " of " + what, d.name(i, 2), m.ties.indexOf(i));
        }
        for (int i = 0; i < m.sorts.size(); i++) {
            Check.due("in " + i + " of " + what, d.sort(i, 0), m.sorts.get(i).in);
            Check.due("out " + i + " of " + what, d.sort(i, 1), m.sorts.get(i).out);
            Check.due("cost of sort " + i + " of " + what, d.sort(i, 2), m.sorts.get(i).cost);
            for (int k = 0; k < m.names.size(); k++) {
                Check.due("order " + i + " of " + what, d.order(i, k), m.sorts.get(i).order.get(k));
            }
        }
    }

    // ---- halls

    private static void oneHall() {
        int names = below(20) == 0 ? 8 : 1 + below(5);
        String hall = hallText(names, below(5), 3);
        String rule = ruleText();
        DoorList d = Check.open(hall, rule);
        Model m = new Model();
        m.readHall(hall);
        m.rule = m.readRule(rule);
        String what = hall + " by " + rule;
        sameHall(what, d, m);
        counting(what, d, m);
        changes(what, d, m);
        sides(what, d, m);
        chances(what, d, m);
        sameHall("looking changes nothing: " + what, d, m);
    }

    private static void or8(String what, DoorList d, int got, int want) {
        if (want < 0) {
            Check.refused(what, d, got, 8);
        } else {
            Check.given(what, d, got, want);
        }
    }

    private static void counting(String what, DoorList d, Model m) {
        or8("wins " + what, d, d.wins(), m.winner());
        for (int c = 0; c <= m.rule.size(); c++) {
            Check.given("left " + c + " " + what, d, d.left(c), Model.bits(m.left(m.standing(), m.ballots(), c)));
        }
        for (int a = 0; a < m.names.size(); a++) {
            if (m.standing().contains(a)) {
                Check.given("firsts " + what, d, d.firsts(a), m.firsts(a));
            } else {
                Check.refused("firsts " + what, d, d.firsts(a), 9);
            }
            for (int b = 0; b < m.names.size(); b++) {
                if (a != b) {
                    Check.given("beats " + what, d, d.beats(a, b), Model.beats(a, b, m.ballots()));
                    Check.given("alike " + what, d, d.alike(a, b), m.alike(a, b));
                }
            }
        }
    }

    private static void changes(String what, DoorList d, Model m) {
        for (int k = 0; k < 3; k++) {
            int name = below(m.names.size());
            boolean wins = below(3) != 0;
            boolean cheapest = below(2) == 0;
            int kinds = 1 + below(3);
            int[] want = m.names(name, wins, kinds, cheapest);
            String call = "names(" + name + ", " + wins + ", " + kinds + ", " + cheapest + ") " + what;
            int got = d.names(name, wins, kinds, cheapest);
            if (want == null) {
                Check.refused(call, d, got, 9);
            } else {
                Check.given(call, d, got, want[0]);
                Check.given("found(0) of " + call, d, d.found(0), want[1]);
                Check.given("found(1) of " + call, d, d.found(1), want[2]);
            }
            kinds = 4 * (1 + below(3));
            int most = below(6);
            Model.Row row = m.people(name, wins, kinds, most, cheapest);
            call = "people(" + name + ", " + wins + ", " + kinds + ", " + most + ", " + cheapest + ") " + what;
            got = d.people(name, wins, kinds, most, cheapest);
            if (row == null) {
                Check.refused(call, d, got, 9);
            } else {
                Check.given(call, d, got, row.many);
                Check.given("found(0) of " + call, d, d.found(0), row.cost);
                for (int s = 0; s < row.moves.length; s++) {
                    Check.given("moved(" + s + ") of " + call, d, d.moved(s), row.moves[s]);
                }
            }
        }
        int kinds = below(2) == 0 ? 1 + below(3) : 4 * (1 + below(3));
        or8("safe(" + kinds + ") " + what, d, d.safe(kinds), m.winner() < 0 ? -1 : m.safe(kinds));
    }

    private static void sides(String what, DoorList d, Model m) {
        int set = below(1 << m.sorts.size());
        or8("parted(" + set + ") " + what, d, d.parted(set), m.parted(set));
        int name = below(m.names.size());
        int parting = m.parting(name);
        if (parting < 0) {
            Check.refused("parting(" + name + ") " + what, d, d.parting(name), 9);
        } else {
            Check.given("parting(" + name + ") " + what, d, d.parting(name), parting);
        }
        or8("cousins " + what, d, d.cousins(), m.winner() < 0 ? -1 : m.cousins());
        for (int k = 0; k < 3; k++) {
            int mine = below(1 << m.names.size());
            int others = below(1 << m.names.size()) & ~mine;
            int turns = 1 + below(m.names.size() > 5 ? 2 : 3);
            int want = m.game(name, mine, others, turns);
            String call = "game(" + name + ", " + mine + ", " + others + ", " + turns + ") " + what;
            Check.given(call, d, d.game(name, mine, others, turns), want == -2 ? 0 : 1);
            if (want != -2) {
                Check.given("opening of " + call, d, d.opening(), want);
            }
            name = below(m.names.size());
        }
    }

    private static void chances(String what, DoorList d, Model m) {
        int name = below(m.names.size());
        int[] shares = new int[m.sorts.size()];
        d.tray(0, below(4), shares.length);
        for (int s = 0; s < shares.length; s++) {
            shares[s] = below(17);
            d.write(0, s, shares[s]);
        }
        if (m.ballots().size() > 9) {
            return;
        }
        BigInteger[] doubt = m.doubt(name, shares);
        Check.fraction("doubt " + what, d, d.doubt(0, name), doubt[0].longValueExact(), doubt[1].longValueExact());
        int many = below(m.ballots().size() + 1);
        BigInteger[] seldom = m.seldom(name, many);
        Check.fraction("seldom " + what, d, d.seldom(name, many), seldom[0].longValueExact(),
                seldom[1].longValueExact());
    }

    // ---- acts

    private static void oneAct() {
        String hall = hallText(1 + below(5), below(5), 4);
        String rule = ruleText();
        String text = actsText();
        DoorList d = Check.open(hall, rule);
        Model m = new Model();
        m.readHall(hall);
        m.rule = m.readRule(rule);
        List<Model.Step> steps = m.readActs(text);
        Check.acts(d, text);
        String what = text + " in " + hall + " by " + rule;
        for (int k = 0; k < 2; k++) {
            m.act(steps, text.contains("spend"));
            Check.given("act " + what, d, d.act(), m.done);
            Check.given("changes " + what, d, d.acted(0), m.changes);
            Check.given("cost " + what, d, d.acted(1), m.costs);
            Check.given("left " + what, d, d.acted(2), m.purse);
            Check.given("cut " + what, d, d.acted(3), m.cut ? 1 : 0);
            sameHall(what, d, m);
        }
    }
}
