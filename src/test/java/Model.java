import java.math.BigInteger;
import java.util.ArrayList;
import java.util.Arrays;
import java.util.Collections;
import java.util.Comparator;
import java.util.HashMap;
import java.util.List;
import java.util.Map;
import java.util.Set;
import java.util.TreeSet;
import java.util.regex.Matcher;
import java.util.regex.Pattern;

/**
 * The document's words done the slow way, one ballot a voter and no thought of room or speed, so that
 * DoorList can be held against something that was not written like it.
 */
final class Model {
    static final class Fault extends RuntimeException {
        private static final long serialVersionUID = 1L;
        final int kind;
        final int place;

        Fault(int kind, int place) {
            this.kind = kind;
            this.place = place;
        }
    }

    private static final class Cut extends RuntimeException {
        private static final long serialVersionUID = 1L;
    }

    record Token(char sort, String text, int at) {
    }

    record Clause(String key, List<Integer> numbers) {
    }

    static final class Name {
        String word;
        boolean stands = true;
        int cost = 1;
    }

    static final class Sort {
        int in;
        int out = 0;
        int cost = 1;
        List<Integer> order = new ArrayList<>();
    }

    static final class Step {
        String key;
        String who;
        boolean not;
        int first;
        int second;
        List<Step> body = new ArrayList<>();
    }

    static final class Row {
        int many;
        int cost;
        int[] moves;
    }

    List<Name> names = new ArrayList<>();
    List<Sort> sorts = new ArrayList<>();
    List<Integer> ties = new ArrayList<>();
    List<Clause> rule = new ArrayList<>(List.of(new Clause("first", List.of())));

    // ---- texts

    private List<Token> tokens;
    private int at;

    private void lex(String text) {
        tokens = new ArrayList<>();
        at = 0;
        Matcher m = Pattern.compile("[a-z]+|[0-9]+|;|[ \n]+|(?s).").matcher(text);
        while (m.find()) {
            String t = m.group();
            char c = t.charAt(0);
            if (c == ' ' || c == '\n') {
                continue;
            }
            char sort = c == ';' ? ';' : c >= 'a' && c <= 'z' ? 'w' : c >= '0' && c <= '9' && t.length() < 4 ? 'n' : 'b';
            tokens.add(new Token(sort, t, m.start()));
        }
        tokens.add(new Token('e', "", text.length()));
    }

    private Token peek() {
        Token t = tokens.get(at);
        if (t.sort() == 'b') {
            throw new Fault(1, t.at());
        }
        return t;
    }

    private Token take() {
        Token t = peek();
        at++;
        return t;
    }

    private boolean nextIs(String word) {
        return peek().sort() == 'w' && peek().text().equals(word);
    }

    private void sign() {
        Token t = take();
        if (t.sort() != ';') {
            throw new Fault(2, t.at());
        }
    }

    private int number(int least, int most) {
        Token t = take();
        if (t.sort() != 'n') {
            throw new Fault(2, t.at());
        }
        int v = Integer.parseInt(t.text());
        if (v < least || v > most) {
            throw new Fault(4, t.at());
        }
        return v;
    }

    private Token nameWord(Set<String> keys) {
        Token t = take();
        if (t.sort() != 'w' || t.text().length() > 8 || keys.contains(t.text())) {
            throw new Fault(2, t.at());
        }
        return t;
    }

    private static final Set<String> HALL_KEYS = Set.of("name", "off", "cost", "sort", "out", "order", "ties");
    private static final Set<String> ACT_KEYS =
            Set.of("up", "down", "in", "out", "spend", "loop", "when", "until", "not", "end");

    int indexOf(String word) {
        for (int i = 0; i < names.size(); i++) {
            if (names.get(i).word.equals(word)) {
                return i;
            }
        }
        return -1;
    }

    /** Reads into this model, which must be a new one. */
    void readHall(String text) {
        lex(text);
        boolean tied = false;
        while (peek().sort() != 'e') {
            Token t = take();
            String key = t.sort() == 'w' ? t.text() : "";
            if (key.equals("name")) {
                if (tied || !sorts.isEmpty()) {
                    throw new Fault(7, t.at());
                }
                readName();
            } else if (key.equals("sort")) {
                if (sorts.size() == 20) {
                    throw new Fault(6, t.at());
                }
                readSort();
            } else if (key.equals("ties")) {
                if (tied) {
                    throw new Fault(5, t.at());
                }
                tied = true;
                ties = readRow();
            } else {
                throw new Fault(2, t.at());
            }
        }
        if (!tied) {
            for (int i = 0; i < names.size(); i++) {
                ties.add(i);
            }
        }
    }

    private void readName() {
        Token t = nameWord(HALL_KEYS);
        if (indexOf(t.text()) >= 0) {
            throw new Fault(3, t.at());
        }
        if (names.size() == 8) {
            throw new Fault(6, t.at());
        }
        Name n = new Name();
        n.word = t.text();
        names.add(n);
        if (nextIs("off")) {
            take();
            n.stands = false;
        }
        if (nextIs("cost")) {
            take();
            n.cost = number(0, 99);
        }
        sign();
    }

    private void readSort() {
        Sort s = new Sort();
        s.in = number(0, 99);
        Set<String> seen = new TreeSet<>();
        while (nextIs("out") || nextIs("cost")) {
            Token t = take();
            if (!seen.add(t.text())) {
                throw new Fault(5, t.at());
            }
            int v = number(0, 99);
            if (t.text().equals("out")) {
                s.out = v;
            } else {
                s.cost = v;
            }
        }
        if (!nextIs("order")) {
            throw new Fault(2, peek().at());
        }
        take();
        s.order = readRow();
        sorts.add(s);
    }

    private List<Integer> readRow() {
        List<Integer> row = new ArrayList<>();
        do {
            Token t = nameWord(HALL_KEYS);
            int n = indexOf(t.text());
            if (n < 0) {
                throw new Fault(3, t.at());
            }
            if (row.contains(n)) {
                throw new Fault(5, t.at());
            }
            row.add(n);
        } while (peek().sort() != ';');
        if (row.size() < names.size()) {
            throw new Fault(8, peek().at());
        }
        take();
        return row;
    }

    List<Clause> readRule(String text) {
        lex(text);
        List<Clause> clauses = new ArrayList<>();
        while (peek().sort() != 'e') {
            Token t = take();
            if (t.sort() != 'w' || !Set.of("first", "points", "runs", "pairs", "near", "bar").contains(t.text())) {
                throw new Fault(2, t.at());
            }
            if (clauses.size() == 4) {
                throw new Fault(6, t.at());
            }
            List<Integer> numbers = new ArrayList<>();
            if (t.text().equals("near")) {
                numbers.add(number(1, 8));
            } else if (t.text().equals("bar")) {
                numbers.add(number(0, 99));
            } else if (t.text().equals("points")) {
                do {
                    int place = peek().at();
                    numbers.add(number(0, 99));
                    if (numbers.size() == 9) {
                        throw new Fault(6, place);
                    }
                } while (peek().sort() != ';');
            }
            sign();
            clauses.add(new Clause(t.text(), numbers));
        }
        return clauses;
    }

    private int stepsRead;

    List<Step> readActs(String text) {
        lex(text);
        stepsRead = 0;
        List<Step> steps = readSteps(0);
        Token t = peek();
        if (t.sort() != 'e') {
            throw new Fault(2, t.at());
        }
        return steps;
    }

    int stepsRead() {
        return stepsRead;
    }

    private List<Step> readSteps(int depth) {
        List<Step> steps = new ArrayList<>();
        while (peek().sort() == 'w' && !nextIs("end") && ACT_KEYS.contains(peek().text()) && !nextIs("not")) {
            Token t = take();
            Step s = new Step();
            s.key = t.text();
            boolean begins = Set.of("loop", "when", "until").contains(s.key);
            if (begins && depth == 3) {
                throw new Fault(5, t.at());
            }
            if (stepsRead == 40) {
                throw new Fault(6, t.at());
            }
            stepsRead++;
            switch (s.key) {
                case "up", "down" -> s.who = nameWord(ACT_KEYS).text();
                case "in", "out" -> {
                    s.first = number(0, 19);
                    s.second = number(0, 99);
                }
                case "spend" -> s.first = number(0, 999);
                case "loop" -> s.first = number(1, 9);
                default -> {
                    s.not = nextIs("not");
                    if (s.not) {
                        take();
                    }
                    s.who = nameWord(ACT_KEYS).text();
                }
            }
            sign();
            if (begins) {
                s.body = readSteps(depth + 1);
                if (!nextIs("end")) {
                    throw new Fault(2, peek().at());
                }
                take();
                sign();
            }
            steps.add(s);
        }
        return steps;
    }

    // ---- counting

    Set<Integer> standing() {
        Set<Integer> set = new TreeSet<>();
        for (int i = 0; i < names.size(); i++) {
            if (names.get(i).stands) {
                set.add(i);
            }
        }
        return set;
    }

    static int bits(Set<Integer> set) {
        int bits = 0;
        for (int i : set) {
            bits |= 1 << i;
        }
        return bits;
    }

    static Set<Integer> setOf(int bits) {
        Set<Integer> set = new TreeSet<>();
        for (int i = 0; i < 32; i++) {
            if ((bits >>> i & 1) != 0) {
                set.add(i);
            }
        }
        return set;
    }

    List<List<Integer>> ballots() {
        int[] in = new int[sorts.size()];
        for (int s = 0; s < in.length; s++) {
            in[s] = sorts.get(s).in;
        }
        return ballots(in);
    }

    private List<List<Integer>> ballots(int[] in) {
        List<List<Integer>> all = new ArrayList<>();
        for (int s = 0; s < in.length; s++) {
            for (int i = 0; i < in[s]; i++) {
                all.add(sorts.get(s).order);
            }
        }
        return all;
    }

    private static List<Integer> among(List<Integer> ballot, Set<Integer> left) {
        List<Integer> kept = new ArrayList<>(ballot);
        kept.retainAll(left);
        return kept;
    }

    private static Map<Integer, Integer> zero(Set<Integer> left) {
        Map<Integer, Integer> map = new HashMap<>();
        for (int n : left) {
            map.put(n, 0);
        }
        return map;
    }

    private static Map<Integer, Integer> firsts(Set<Integer> left, List<List<Integer>> ballots) {
        Map<Integer, Integer> map = zero(left);
        for (List<Integer> b : ballots) {
            List<Integer> kept = among(b, left);
            if (!kept.isEmpty()) {
                map.merge(kept.get(0), 1, Integer::sum);
            }
        }
        return map;
    }

    private static Set<Integer> most(Map<Integer, Integer> map) {
        int top = Collections.max(map.values());
        Set<Integer> set = new TreeSet<>();
        map.forEach((n, v) -> {
            if (v == top) {
                set.add(n);
            }
        });
        return set;
    }

    private Set<Integer> sift(Clause c, Set<Integer> left, List<List<Integer>> ballots) {
        switch (c.key()) {
            case "first":
                return most(firsts(left, ballots));
            case "points": {
                Map<Integer, Integer> map = zero(left);
                for (List<Integer> b : ballots) {
                    List<Integer> kept = among(b, left);
                    for (int i = 0; i < kept.size(); i++) {
                        map.merge(kept.get(i), i < c.numbers().size() ? c.numbers().get(i) : 0, Integer::sum);
                    }
                }
                return most(map);
            }
            case "near": {
                Map<Integer, Integer> map = zero(left);
                for (List<Integer> b : ballots) {
                    List<Integer> kept = among(b, left);
                    for (int n : kept.subList(0, Math.min(kept.size(), c.numbers().get(0)))) {
                        map.merge(n, 1, Integer::sum);
                    }
                }
                return most(map);
            }
            case "bar": {
                Set<Integer> set = new TreeSet<>();
                firsts(left, ballots).forEach((n, v) -> {
                    if (100L * v >= (long) c.numbers().get(0) * ballots.size()) {
                        set.add(n);
                    }
                });
                return set.isEmpty() ? left : set;
            }
            case "pairs":
                return pairs(left, ballots);
            default:
                return runs(left, ballots);
        }
    }

    static int beats(int a, int b, List<List<Integer>> ballots) {
        int more = 0;
        for (List<Integer> ballot : ballots) {
            more += ballot.indexOf(a) < ballot.indexOf(b) ? 1 : -1;
        }
        return more;
    }

    private static Set<Integer> pairs(Set<Integer> left, List<List<Integer>> ballots) {
        for (int a : left) {
            if (left.stream().allMatch(b -> b == a || beats(a, b, ballots) > 0)) {
                return new TreeSet<>(Set.of(a));
            }
        }
        return left;
    }

    private Set<Integer> runs(Set<Integer> left, List<List<Integer>> ballots) {
        Set<Integer> now = new TreeSet<>(left);
        while (now.size() > 1) {
            Map<Integer, Integer> map = firsts(now, ballots);
            for (int n : now) {
                if (2 * map.get(n) > ballots.size()) {
                    return new TreeSet<>(Set.of(n));
                }
            }
            int least = Collections.min(map.values());
            int gone = Collections.max(now.stream().filter(n -> map.get(n) == least).toList(),
                    Comparator.comparing(ties::indexOf));
            now.remove(gone);
        }
        return now;
    }

    Set<Integer> left(Set<Integer> standing, List<List<Integer>> ballots, int clauses) {
        Set<Integer> left = standing;
        for (int i = 0; i < clauses && !left.isEmpty(); i++) {
            left = sift(rule.get(i), left, ballots);
        }
        return left;
    }

    int winner(Set<Integer> standing, List<List<Integer>> ballots) {
        Set<Integer> left = left(standing, ballots, rule.size());
        return left.isEmpty() ? -1 : Collections.min(left, Comparator.comparing(ties::indexOf));
    }

    int winner() {
        return winner(standing(), ballots());
    }

    int firsts(int name) {
        return firsts(standing(), ballots()).get(name);
    }

    // ---- changes

    /** {number, cost, set}, or null. */
    int[] names(int name, boolean wins, int kinds, boolean cheapest) {
        List<int[]> all = new ArrayList<>();
        for (int set = 0; set < 1 << names.size(); set++) {
            boolean may = true;
            int cost = 0;
            Set<Integer> then = standing();
            for (int n : setOf(set)) {
                may &= (kinds & (names.get(n).stands ? 2 : 1)) != 0;
                cost += names.get(n).cost;
                if (!then.remove(n)) {
                    then.add(n);
                }
            }
            if (may && (winner(then, ballots()) == name) == wins) {
                all.add(new int[] {Integer.bitCount(set), cost, set});
            }
        }
        int first = cheapest ? 1 : 0;
        return all.stream().min(Comparator.<int[]>comparingInt(x -> x[first]).thenComparingInt(x -> x[1 - first])
                .thenComparingInt(x -> x[2])).orElse(null);
    }

    Row people(int name, boolean wins, int kinds, int most, boolean cheapest) {
        List<Row> all = new ArrayList<>();
        rows(new int[sorts.size()], 0, kinds, most, all);
        List<Row> good = new ArrayList<>();
        for (Row r : all) {
            int[] in = new int[sorts.size()];
            for (int s = 0; s < in.length; s++) {
                in[s] = sorts.get(s).in + r.moves[s];
            }
            if ((winner(standing(), ballots(in)) == name) == wins) {
                good.add(r);
            }
        }
        Comparator<Row> byMany = Comparator.comparingInt(r -> r.many);
        Comparator<Row> byCost = Comparator.comparingInt(r -> r.cost);
        Comparator<Row> byRow = (x, y) -> {
            for (int s = 0; s < x.moves.length; s++) {
                int size = Integer.compare(Math.abs(x.moves[s]), Math.abs(y.moves[s]));
                if (size != 0) {
                    return size;
                }
                if (x.moves[s] != y.moves[s]) {
                    return x.moves[s] > 0 ? -1 : 1;
                }
            }
            return 0;
        };
        return good.stream().min((cheapest ? byCost.thenComparing(byMany) : byMany.thenComparing(byCost))
                .thenComparing(byRow)).orElse(null);
    }

    private void rows(int[] moves, int s, int kinds, int rest, List<Row> all) {
        if (s == moves.length) {
            Row r = new Row();
            r.moves = moves.clone();
            for (int i = 0; i < s; i++) {
                r.many += Math.abs(moves[i]);
                r.cost += Math.abs(moves[i]) * sorts.get(i).cost;
            }
            all.add(r);
            return;
        }
        int down = (kinds & 8) == 0 ? 0 : Math.min(rest, sorts.get(s).in);
        int up = (kinds & 4) == 0 ? 0 : Math.min(rest, sorts.get(s).out);
        for (int v = -down; v <= up; v++) {
            moves[s] = v;
            rows(moves, s + 1, kinds, rest - Math.abs(v), all);
        }
        moves[s] = 0;
    }

    int safe(int kinds) {
        if (kinds < 4) {
            int[] found = names(winner(), false, kinds, false);
            return found == null ? 8 : found[0] - 1;
        }
        Row found = people(winner(), false, kinds, 5, false);
        return found == null ? 5 : found.many - 1;
    }

    // ---- sides

    int parted(int set) {
        Set<Integer> sent = new TreeSet<>();
        for (int side = 0; side < 2; side++) {
            int[] in = new int[sorts.size()];
            for (int s = 0; s < in.length; s++) {
                in[s] = (set >> s & 1) == side ? sorts.get(s).in : 0;
            }
            int w = Arrays.stream(in).sum() == 0 ? -1 : winner(standing(), ballots(in));
            if (w >= 0) {
                sent.add(w);
            }
        }
        return winner(sent, ballots());
    }

    int parting(int name) {
        for (int set = 0; set < 1 << sorts.size(); set++) {
            if (parted(set) == name) {
                return set;
            }
        }
        return -1;
    }

    int cousins() {
        int set = 0;
        for (int n = 0; n < names.size(); n++) {
            if (!names.get(n).stands) {
                Set<Integer> then = standing();
                then.add(n);
                int w = winner(then, ballots());
                if (w != winner() && w != n) {
                    set |= 1 << n;
                }
            }
        }
        return set;
    }

    int alike(int a, int b) {
        Set<Integer> asked = standing();
        asked.add(a);
        asked.add(b);
        int sum = 0;
        for (List<Integer> ballot : ballots()) {
            List<Integer> kept = among(ballot, asked);
            sum += Math.abs(kept.indexOf(a) - kept.indexOf(b)) == 1 ? 1 : 0;
        }
        return sum;
    }

    /** The opening, -1 for nothing, or -2 if the one can't make sure. */
    int game(int name, int mine, int others, int turns) {
        int now = bits(standing());
        Map<Integer, Integer> winners = new HashMap<>();
        for (int move = -1; move < names.size(); move++) {
            if (move >= 0 && (mine >> move & 1) == 0) {
                continue;
            }
            if (sure(name, mine, others, move < 0 ? now : now ^ 1 << move, 2 * turns - 1, winners)) {
                return move;
            }
        }
        return -2;
    }

    private boolean sure(int name, int mine, int others, int now, int plies, Map<Integer, Integer> winners) {
        if (plies == 0) {
            return winners.computeIfAbsent(now, s -> winner(setOf(s), ballots())) == name;
        }
        boolean theOne = plies % 2 == 0;
        int set = theOne ? mine : others;
        boolean any = sure(name, mine, others, now, plies - 1, winners);
        boolean all = any;
        for (int n : setOf(set)) {
            boolean then = sure(name, mine, others, now ^ 1 << n, plies - 1, winners);
            any |= then;
            all &= then;
        }
        return theOne ? any : all;
    }

    private static BigInteger[] reduced(BigInteger top, BigInteger bottom) {
        BigInteger g = top.gcd(bottom);
        return new BigInteger[] {top.divide(g), bottom.divide(g)};
    }

    BigInteger[] doubt(int name, int[] shares) {
        List<Integer> owner = new ArrayList<>();
        for (int s = 0; s < sorts.size(); s++) {
            for (int i = 0; i < sorts.get(s).in; i++) {
                owner.add(s);
            }
        }
        BigInteger top = BigInteger.ZERO;
        for (int set = 0; set < 1 << owner.size(); set++) {
            BigInteger weight = BigInteger.ONE;
            List<List<Integer>> voting = new ArrayList<>();
            for (int v = 0; v < owner.size(); v++) {
                boolean votes = (set >> v & 1) != 0;
                int share = shares[owner.get(v)];
                weight = weight.multiply(BigInteger.valueOf(votes ? share : 16 - share));
                if (votes) {
                    voting.add(sorts.get(owner.get(v)).order);
                }
            }
            if (winner(standing(), voting) == name) {
                top = top.add(weight);
            }
        }
        return reduced(top, BigInteger.valueOf(16).pow(owner.size()));
    }

    BigInteger[] seldom(int name, int many) {
        List<List<Integer>> all = ballots();
        long good = 0;
        long sets = 0;
        for (int set = 0; set < 1 << all.size(); set++) {
            if (Integer.bitCount(set) != many) {
                continue;
            }
            sets++;
            List<List<Integer>> still = new ArrayList<>();
            for (int v = 0; v < all.size(); v++) {
                if ((set >> v & 1) == 0) {
                    still.add(all.get(v));
                }
            }
            good += winner(standing(), still) == name ? 1 : 0;
        }
        return reduced(BigInteger.valueOf(good), BigInteger.valueOf(sets));
    }

    // ---- acts

    int done;
    int changes;
    int costs;
    int purse;
    boolean cut;
    private boolean free;

    void act(List<Step> steps, boolean priced) {
        done = 0;
        changes = 0;
        costs = 0;
        purse = 0;
        cut = false;
        free = !priced;
        try {
            all(steps);
        } catch (Cut c) {
            cut = true;
        }
    }

    private void all(List<Step> steps) {
        for (Step s : steps) {
            if (done == 200) {
                throw new Cut();
            }
            done++;
            one(s);
        }
    }

    private boolean pays(int cost) {
        if (!free && purse < cost) {
            return false;
        }
        purse -= free ? 0 : cost;
        costs += cost;
        changes++;
        return true;
    }

    private boolean isSo(Step s) {
        int n = indexOf(s.who);
        boolean is = n >= 0 && winner() == n;
        return is != s.not;
    }

    private void one(Step s) {
        switch (s.key) {
            case "up", "down" -> {
                int n = indexOf(s.who);
                boolean up = s.key.equals("up");
                if (n >= 0 && names.get(n).stands != up && pays(names.get(n).cost)) {
                    names.get(n).stands = up;
                }
            }
            case "in", "out" -> {
                for (int i = 0; i < s.second && s.first < sorts.size(); i++) {
                    Sort sort = sorts.get(s.first);
                    boolean in = s.key.equals("in");
                    if ((in ? sort.out : sort.in) > 0 && pays(sort.cost)) {
                        sort.in += in ? 1 : -1;
                        sort.out -= in ? 1 : -1;
                    }
                }
            }
            case "spend" -> purse += s.first;
            case "loop" -> {
                for (int i = 0; i < s.first; i++) {
                    all(s.body);
                }
            }
            case "when" -> {
                if (isSo(s)) {
                    all(s.body);
                }
            }
            default -> {
                for (int i = 0; i < 20 && !isSo(s); i++) {
                    all(s.body);
                }
            }
        }
    }
}
