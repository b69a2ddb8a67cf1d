/** The HALL's text and promises 10 and 12 to 18 sentence by sentence, at their bounds. */
public final class HallBoundsTest {
    private static final String OLD = "name x; name y off cost 7; sort 3 out 2 cost 4 order y x; ties y x;";
    private static final String EIGHT = "name a;name b;name c;name d;name e;name f;name g;name h;";
    private static final String[] KEYS = {"name", "off", "cost", "sort", "out", "order", "ties"};
    private static final int MIN = Integer.MIN_VALUE;
    private static final int MAX = Integer.MAX_VALUE;

    public static void main(String[] args) {
        textOfSevenHundred();
        hallStatuses();
        tapeIsEmptyThen();
        tokens();
        tokensAsLongAsTheyGo();
        parts();
        options();
        nameWords();
        namesAtMostEight();
        whatNamesCost();
        sortsAtMostTwenty();
        sortNumbers();
        orders();
        ties();
        firstFault();
        faultOne();
        faultTwo();
        faultThree();
        faultFour();
        faultFive();
        faultSix();
        faultSeven();
        faultEight();
        placeOfAnother();
        nothingOfALarger();
        fault();
        many();
        name();
        sort();
        order();
        stand();
        voters();
        Check.end("HallBoundsTest");
    }

    /** A text with a FAULT leaves the HALL ahead, but for the tape and what fault() tells. */
    private static void faulty(String text, int kind, int place) {
        DoorList d = Check.open(OLD);
        Check.fault("hall " + text, d, Check.hall(d, text), kind, place);
        Check.due("the tape is empty behind " + text, d.feed(0, 0, 0, 0, 0), 20);
        Check.due("the old names", d.many(0), 2);
        Check.due("the old sorts", d.many(1), 1);
        Check.due("who stands", d.many(4), 1);
        Check.due("what y costs", d.name(1, 1), 7);
        Check.due("its place in ties", d.name(1, 2), 0);
        Check.due("in", d.sort(0, 0), 3);
        Check.due("out", d.sort(0, 1), 2);
        Check.due("what one costs", d.sort(0, 2), 4);
        Check.due("the order", d.order(0, 0), 1);
    }

    private static DoorList taken(String text, int names, int sorts) {
        DoorList d = new DoorList();
        Check.given("hall " + text, d, Check.hall(d, text), names);
        Check.given("sorts of " + text, d, d.many(1), sorts);
        Check.due("no fault of " + text, d.fault(0), 0);
        Check.due("no place of " + text, d.fault(1), -1);
        return d;
    }

    private static void textOfSevenHundred() {
        Doc.says("A HALL is a TEXT of at most 700 bytes.");
        StringBuilder text = new StringBuilder("name a;");
        while (text.length() < 691) {
            text.append(' ');
        }
        text.append("name b  ;");
        DoorList d = new DoorList();
        Check.feedText(d, text.toString());
        Check.given("a text of 700, its sign the last byte", d, d.hall(700), 2);
        Check.feedText(d, text.toString());
        Check.refused("701 of 700", d, d.hall(701), 5);
        Check.given("the last byte counts", d, d.many(0), 2);
        Check.fault("699 of 700", d, d.hall(699), 2, 699);
        DoorList e = new DoorList();
        Check.feedText(e, " ".repeat(700));
        Check.given("700 blanks", e, e.hall(700), 0);
    }

    private static void hallStatuses() {
        Doc.says("The first n bytes of the tape (which is empty then, but for 5) are the HALL: how many NAMES (5; 10: "
                + "the old one stays).");
        DoorList d = new DoorList();
        Check.refused("1 of an empty tape", d, d.hall(1), 5);
        Check.given("0 of an empty tape", d, d.hall(0), 0);
        Check.feedText(d, "name a;name b;!!!!!!");
        for (int n : new int[] {-1, 21, 700, 701, MIN, MAX}) {
            Check.refused("hall " + n, d, d.hall(n), 5);
        }
        Check.given("the first 14 bytes", d, d.hall(14), 2);
        Check.refused("the rest is gone", d, d.hall(1), 5);
        Check.feedText(d, "name a;name b;!!!!!!");
        Check.given("the first 7 bytes", d, d.hall(7), 1);
        Check.feedText(d, "name a;name b;!!!!!!");
        Check.given("none of the bytes", d, d.hall(0), 0);
        Check.given("no name", d, d.many(0), 0);
    }

    private static void tapeIsEmptyThen() {
        DoorList d = new DoorList();
        Check.feedText(d, "name a;");
        d.hall(7);
        Check.due("behind a hall that is taken", d.feed(0, 0, 0, 0, 0), 20);
        d.hall(20);
        Check.due("a fault", d.fault(0), 1);
        Check.due("behind a fault", d.feed(0, 0, 0, 0, 0), 20);
        d.hall(21);
        Check.due("not behind 5", d.feed(0, 0, 0, 0, 0), 40);
        d.hall(-1);
        Check.due("nor behind -1", d.feed(0, 0, 0, 0, 0), 60);
    }

    /** Each byte alone: a blank, the beginning of a TOKEN that can't stand there, or no beginning. */
    private static void tokens() {
        Doc.says("TOKENS, as long as they go, between them blanks (10, 32): WORDS (small letters), NUMBERS (1 to 3 "
                + "digits), the SIGN ;");
        for (int b = 0; b < 256; b++) {
            DoorList d = new DoorList();
            d.feed(b << 24, 0, 0, 0, 0);
            int got = d.hall(1);
            boolean blank = b == 10 || b == 32;
            boolean begins = b >= 97 && b <= 122 || b >= 48 && b <= 57 || b == 59;
            Check.due("byte " + b, got, blank ? 0 : -1);
            Check.due("fault of byte " + b, d.fault(0), blank ? 0 : begins ? 2 : 1);
            Check.due("place of byte " + b, d.fault(1), blank ? -1 : 0);
        }
        taken("\n \n name\n\n  a\n;\n", 1, 0);
        taken("name a;name b;ties b a;", 2, 0);
        faulty("name\ta;", 1, 4);
        faulty("name a\r;", 1, 6);
        faulty("name a\0;", 1, 6);
    }

    private static void tokensAsLongAsTheyGo() {
        faulty("namea;", 2, 0);
        faulty("nam e a;", 2, 0);
        faulty("name a; sort 1 2 order a;", 2, 15);
        DoorList d = taken("name aoff; name offa; name of; name f;", 4, 0);
        Check.given("all stand", d, d.many(4), 15);
        d = taken("name a;sort 1out 2cost 3order a;", 1, 1);
        Check.given("a number ends where letters begin", d, d.sort(0, 0), 1);
        Check.given("out", d, d.sort(0, 1), 2);
        Check.given("cost", d, d.sort(0, 2), 3);
        d = taken("name a; sort 012 order a;", 1, 1);
        Check.given("digits go together", d, d.sort(0, 0), 12);
    }

    private static void parts() {
        Doc.says("HALL: {PART}. PART: name NAME [off] [cost NUMBER] ; or sort NUMBER {OPTION} order NAME {NAME} ; or ties "
                + "NAME {NAME} ;");
        Doc.says("({ } any number of times, [ ] perhaps.)");
        taken("", 0, 0);
        taken("name a;", 1, 0);
        DoorList d = taken("name a off;", 1, 0);
        Check.given("off", d, d.many(4), 0);
        d = taken("name a cost 5;", 1, 0);
        Check.given("stands", d, d.many(4), 1);
        Check.given("cost", d, d.name(0, 1), 5);
        d = taken("name a off cost 6;", 1, 0);
        Check.given("off", d, d.many(4), 0);
        Check.given("cost", d, d.name(0, 1), 6);
        taken("name a; sort 1 order a; ties a; sort 2 order a;", 1, 2);
        faulty("name a cost 6 off;", 2, 14);
        faulty("name a off off;", 2, 11);
        faulty("name a cost 6 cost 6;", 2, 14);
        faulty("name a;;", 2, 7);
        faulty("sort 1 order;", 2, 12);
        faulty("ties;", 2, 4);
        faulty("name;", 2, 4);
        faulty("name a off", 2, 10);
        faulty("order a;", 2, 0);
        faulty("off;", 2, 0);
        faulty("out 1;", 2, 0);
        faulty("cost 1;", 2, 0);
    }

    private static void options() {
        Doc.says("OPTION: out NUMBER, or cost NUMBER.");
        String[] texts = {"", "out 5 ", "cost 6 ", "out 5 cost 6 ", "cost 6 out 5 "};
        for (String options : texts) {
            DoorList d = taken("name a; sort 4 " + options + "order a;", 1, 1);
            Check.given("in", d, d.sort(0, 0), 4);
            Check.given("out", d, d.sort(0, 1), options.contains("out") ? 5 : 0);
            Check.given("cost", d, d.sort(0, 2), options.contains("cost") ? 6 : 1);
        }
        faulty("name a; sort out 5 order a;", 2, 13);
        faulty("name a; sort 4 out order a;", 2, 19);
        faulty("name a; sort 4 cost order a;", 2, 20);
        faulty("name a; sort 4 order a out 5;", 2, 23);
        faulty("name a; sort 4 a;", 2, 15);
        faulty("name a; sort 4 ;", 2, 15);
        faulty("name a; sort 4 off order a;", 2, 15);
    }

    private static void nameWords() {
        Doc.says("NAME: a WORD of 1 to 8 letters that is none of name, off, cost, sort, out, order, ties.");
        taken("name z; name abcdefgh; name zzzzzzzz; name aaaaaaaa;", 4, 0);
        faulty("name abcdefghi;", 2, 5);
        faulty("name " + "a".repeat(300) + ";", 2, 5);
        faulty("name ;", 2, 5);
        for (String key : KEYS) {
            faulty("name " + key + ";", 2, 5);
            faulty("name a; sort 1 order " + key + ";", 2, 21);
            faulty("name a; sort 1 order a " + key + ";", 2, 23);
            faulty("name a; ties " + key + ";", 2, 13);
            faulty("name a; ties a " + key + ";", 2, 15);
            taken("name " + key + "s; name x" + key + ";", 2, 0);
            for (int i = 0; i < key.length(); i++) {
                String other = key.substring(0, i) + "z" + key.substring(i + 1);
                taken("name " + other + ";", 1, 0);
                faulty(other + " a;", 2, 0);
            }
            taken("name " + key.substring(1) + "; name " + key.substring(0, key.length() - 1) + ";", 2, 0);
        }
        // WORDS that are alike in part, or as numbers, are others
        String[] words = {"a", "q", "aq", "qa", "aa", "ba", "ab", "aab"};
        StringBuilder text = new StringBuilder();
        for (String word : words) {
            text.append("name ").append(word).append(';');
        }
        taken(text + "ties aab ab ba aa qa aq q a;", 8, 0);
        for (char one = 'a'; one <= 'z'; one++) {
            for (char other = 'a'; other < one; other++) {
                taken("name " + one + "x; name " + other + "x; name x" + one + "y; name x" + other + "y;", 4, 0);
            }
        }
        taken("name zzzzzzzz; name azzzzzzz; name zzzzzzza; name zzzzzzz; name aaaaaaaz; name aaaaaaza;", 6, 0);
        // key words of the RULE and the ACTS are told there, not here
        taken("name first; name points; name runs; name pairs; name near; name bar; name up; name end;", 8, 0);
    }

    private static void namesAtMostEight() {
        Doc.says("NAMES, at most 8, numbered as they stand: it STANDS, or not yet (off);");
        DoorList d = taken(EIGHT + "sort 1 order h g f e d c b a;", 8, 1);
        for (int place = 0; place < 8; place++) {
            Check.given("numbered as they stand", d, d.order(0, place), 7 - place);
        }
        Check.given("all stand", d, d.many(4), 255);
        d = taken(EIGHT.replace("c;", "c off;").replace("h;", "h off;"), 8, 0);
        Check.given("two do not yet", d, d.many(4), 255 - 4 - 128);
        Check.given("c does not", d, d.name(2, 0), 0);
        Check.given("d does", d, d.name(3, 0), 1);
        faulty(EIGHT + "name i;", 6, 61);
    }

    private static void whatNamesCost() {
        Doc.says("what it costs to put it up or take it down (0 to 99; 1 without).");
        String[] numbers = {"0", "00", "000", "1", "99", "099"};
        int[] costs = {0, 0, 0, 1, 99, 99};
        for (int i = 0; i < numbers.length; i++) {
            DoorList d = taken("name a cost " + numbers[i] + "; name b;", 2, 0);
            Check.given("cost " + numbers[i], d, d.name(0, 1), costs[i]);
            Check.given("1 without", d, d.name(1, 1), 1);
        }
        for (String number : new String[] {"100", "101", "999"}) {
            faulty("name a off cost " + number + ";", 4, 16);
        }
    }

    private static void sortsAtMostTwenty() {
        Doc.says("SORTS of voters, at most 20, numbered as they stand:");
        StringBuilder text = new StringBuilder("name a;");
        for (int i = 0; i < 20; i++) {
            text.append("sort ").append(40 + i).append(" order a;");
        }
        DoorList d = taken(text.toString(), 1, 20);
        for (int i = 0; i < 20; i++) {
            Check.given("sort " + i, d, d.sort(i, 0), 40 + i);
        }
        taken(text + "ties a;", 1, 20);
        faulty(text + "sort 1 order a;", 6, text.length());
        faulty(text + "ties a;sort", 6, text.length() + 7);
    }

    private static void sortNumbers() {
        Doc.says("so many are IN (0 to 99), so many more could come (out: 0 to 99; 0 without); what it costs to let one in "
                + "or keep one out (0 to 99; 1 without);");
        for (String number : new String[] {"0", "1", "98", "99", "099", "000"}) {
            int n = Integer.parseInt(number);
            DoorList d = taken("name a; sort " + number + " out " + number + " cost " + number + " order a;", 1, 1);
            for (int what = 0; what < 3; what++) {
                Check.given(number + ", what " + what, d, d.sort(0, what), n);
            }
            d = taken("name a; sort " + number + " order a;", 1, 1);
            Check.given("out without", d, d.sort(0, 1), 0);
            Check.given("cost without", d, d.sort(0, 2), 1);
        }
        for (String number : new String[] {"100", "999"}) {
            faulty("name a; sort " + number + " order a;", 4, 13);
            faulty("name a; sort 1 out " + number + " order a;", 4, 19);
            faulty("name a; sort 1 cost " + number + " order a;", 4, 20);
        }
    }

    private static void orders() {
        Doc.says("their ORDER: all NAMES that there are, each once, the dearest first.");
        DoorList d = taken("name a; name b; name c; sort 5 order b c a; sort 0 order c a b;", 3, 2);
        int[][] want = {{1, 2, 0}, {2, 0, 1}};
        for (int sort = 0; sort < 2; sort++) {
            for (int place = 0; place < 3; place++) {
                Check.given("place " + place, d, d.order(sort, place), want[sort][place]);
            }
        }
        Check.given("the dearest is first", d, d.wins(), 1);
        faulty("name a; name b; sort 1 order b;", 8, 30);
        faulty("name a; name b; sort 1 order b b;", 5, 31);
        faulty("name a; name b; sort 1 order b a a;", 5, 33);
        faulty("name a; name b; sort 1 order b a c;", 3, 33);
        taken("name a; sort 1 order a;", 1, 1);
    }

    private static void ties() {
        Doc.says("TIES: all NAMES, the one that goes ahead first (without it as numbered).");
        DoorList d = taken("name a; name b; name c; ties c a b;", 3, 0);
        int[] places = {1, 2, 0};
        for (int name = 0; name < 3; name++) {
            Check.given("place of " + name, d, d.name(name, 2), places[name]);
        }
        Check.given("goes ahead", d, d.wins(), 2);
        d.stand(2, false);
        Check.given("then the next", d, d.wins(), 0);
        d = taken("name a; name b; name c;", 3, 0);
        for (int name = 0; name < 3; name++) {
            Check.given("as numbered", d, d.name(name, 2), name);
        }
        Check.given("the first", d, d.wins(), 0);
        faulty("name a; name b; ties b;", 8, 22);
    }

    private static void firstFault() {
        Doc.says("FAULTS, the first along the text (of one TOKEN the least kind):");
        faulty("name a; sort 100 order b !", 4, 13);
        faulty("name a; sort 10 order b !", 3, 22);
        faulty("name a; sort 10 order a !", 1, 24);
        faulty("name a; sort 10 order a", 2, 23);
        // of one TOKEN: 1 ahead of 4, 2 ahead of 3, 3 ahead of 6
        faulty("name a cost 1000;", 1, 12);
        faulty("name a; sort 1 order name;", 2, 21);
        faulty(EIGHT + "name a;", 3, 61);
        faulty(EIGHT + "name cost;", 2, 61);
        faulty(EIGHT + "name 9999;", 1, 61);
        faulty(EIGHT + "name ", 2, 61);
        // a FAULT told at a WORD is there ahead of what stands behind that WORD
        faulty("name a; ties a; name !", 7, 16);
        faulty("name a; ties a; ties !", 5, 16);
    }

    private static void faultOne() {
        Doc.says("1 no TOKEN begins so (a NUMBER of 4 digits and more: at its first).");
        faulty("name a cost 0001;", 1, 12);
        faulty("name a; sort 1234 order a;", 1, 13);
        faulty("name a; sort 1 out 99999999999999999999 order a;", 1, 19);
        faulty("1111", 1, 0);
        faulty("name a; 4294967297;", 1, 8);
        faulty("name a; sort 4294967297 order a;", 1, 13);
        faulty("111", 2, 0);
        faulty("name a; A", 1, 8);
        faulty("name a; name b.", 1, 14);
        faulty("name a; sort -1 order a;", 1, 13);
        faulty("name a, name b;", 1, 6);
        faulty("\u00ff", 1, 0);
        faulty("name a;   \u0080", 1, 10);
    }

    private static void faultTwo() {
        Doc.says("2 it can't stand there (the end: the text's length).");
        String whole = "name a off cost 3 ;sort 1 out 2 cost 3 order a ;ties a ;";
        int[] ends = {19, 48, 56};
        for (int n = 1; n < whole.length(); n++) {
            if (n == ends[0] || n == ends[1]) {
                continue;
            }
            DoorList d = Check.open(OLD);
            Check.feedText(d, whole);
            Check.refused("the first " + n, d, d.hall(n), 10);
            // a WORD that is cut off is another WORD, which can't stand where that began
            Check.due("kind", d.fault(0), 2);
            int start = wordStart(whole, n);
            boolean cutWord = start < n && n < whole.length() && Character.isLetter(whole.charAt(n))
                    && !isNamePlace(whole, start);
            Check.due("place of the end of " + whole.substring(0, n), d.fault(1), cutWord ? start : n);
        }
        for (int n : ends) {
            DoorList d = new DoorList();
            Check.feedText(d, whole);
            Check.given("the first " + n, d, d.hall(n), 1);
        }
        // bytes of the tape behind the first n are none of the text, though a TOKEN would go on there
        String cut = "name a cost 123;name bee;";
        int[][] rows = {{13, 2, 13}, {14, 2, 14}, {15, 4, 12}, {22, 2, 22}, {23, 2, 23}};
        for (int[] row : rows) {
            DoorList d = new DoorList();
            Check.feedText(d, row[0] < 16 ? cut : cut.replace("123", "12 "));
            Check.fault("the first " + row[0], d, d.hall(row[0]), row[1], row[2]);
        }
        DoorList e = new DoorList();
        Check.feedText(e, "name a cost 1234;");
        Check.fault("three of four digits", e, e.hall(15), 4, 12);
        faulty("name a;  \n name b  ", 2, 19);
        faulty("name a; name", 2, 12);
    }

    private static int wordStart(String text, int end) {
        int start = end;
        while (start > 0 && Character.isLetter(text.charAt(start - 1))) {
            start--;
        }
        return start;
    }

    private static boolean isNamePlace(String text, int start) {
        return text.charAt(start) == 'a' && !Character.isLetter(text.charAt(start + 1));
    }

    private static void faultThree() {
        Doc.says("3 a NAME of a name there already; in order or ties a NAME that is no name told ahead.");
        faulty("name a; name a;", 3, 13);
        faulty("name abcdefgh; name abcdefgg; name abcdefgh off;", 3, 35);
        faulty("name a; sort 1 order b;", 3, 21);
        faulty("name a; name b; sort 1 order a c;", 3, 31);
        faulty("name a; ties aa;", 3, 13);
        faulty("name aa; ties a;", 3, 14);
        faulty("ties a;", 3, 5);
        faulty("sort 1 order a;", 3, 13);
        faulty("name a; ties a b", 3, 15);
    }

    private static void faultFour() {
        Doc.says("4 a NUMBER that can't be.");
        faulty("name a cost 100;", 4, 12);
        faulty("name a; sort 100", 4, 13);
        faulty("name a; sort 1 out 100", 4, 19);
        faulty("name a; sort 1 cost 100", 4, 20);
        faulty("name a; sort 1 out 1 cost 100", 4, 26);
    }

    private static void faultFive() {
        Doc.says("5 a NAME again in one order or ties; out, cost told already in its sort; ties told already (at that "
                + "WORD).");
        faulty("name a; name b; sort 1 order a a b;", 5, 31);
        faulty("name a; name b; sort 1 order a b a;", 5, 33);
        faulty("name a; name b; ties a b b;", 5, 25);
        faulty("name a; sort 1 out 1 out", 5, 21);
        faulty("name a; sort 1 out 1 cost 1 out 1 order a;", 5, 28);
        faulty("name a; sort 1 cost 1 cost 1 order a;", 5, 22);
        faulty("name a; sort 1 cost 1 out 1 cost 100", 5, 28);
        faulty("name a; ties a; sort 1 order a; ties a;", 5, 32);
        taken("name a; sort 1 out 1 cost 1 order a; sort 1 out 1 cost 1 order a;", 1, 2);
        taken("name a; name b; sort 1 order a b; ties a b; sort 1 order a b;", 2, 2);
    }

    private static void faultSix() {
        Doc.says("6 a ninth name (at its NAME), a 21st sort (at that WORD).");
        faulty(EIGHT + "name i", 6, 61);
        faulty(EIGHT + "   name\ni off;", 6, 64);
        String twenty = "name a;" + "sort 1 order a;".repeat(20);
        faulty(twenty + "sort", 6, 307);
        faulty(twenty + "  sort 100", 6, 309);
        taken(twenty + " ties a;", 1, 20);
    }

    private static void faultSeven() {
        Doc.says("7 a name behind any sort or ties (at that WORD).");
        faulty("name a; sort 1 order a; name b;", 7, 24);
        faulty("name a; sort 1 order a; name", 7, 24);
        faulty("name a; ties a;  name a;", 7, 17);
        faulty(EIGHT + "ties a b c d e f g h;name i;", 7, 77);
        faulty("name a; sort 1 order a; ties a; name b;", 7, 32);
    }

    private static void faultEight() {
        Doc.says("8 an order, ties that lack a NAME (at the ; ).");
        faulty("name a; name b; sort 1 order b  ;", 8, 32);
        faulty("name a; name b; ties a;", 8, 22);
        faulty(EIGHT + "ties a b c d e f g;", 8, 74);
        faulty(EIGHT + "sort 1 order h g f e d c b;", 8, 82);
        taken(EIGHT + "sort 1 order h g f e d c b a;", 8, 1);
    }

    private static void placeOfAnother() {
        Doc.says("A HALL that is taken is there in place of that ahead; the RULE stays.");
        DoorList d = Check.open(OLD, "points 0 1;");
        Check.given("another", d, Check.hall(d, "name p; name q; name r; sort 5 order p q r; sort 4 order p r q;"), 3);
        Check.given("its names", d, d.many(0), 3);
        Check.given("its sorts", d, d.many(1), 2);
        Check.given("all stand", d, d.many(4), 7);
        Check.given("no cost of that ahead", d, d.name(1, 1), 1);
        Check.given("no ties of that ahead", d, d.name(0, 2), 0);
        Check.given("no out of that ahead", d, d.sort(0, 1), 0);
        Check.given("no cost of that ahead", d, d.sort(0, 2), 1);
        Check.given("one clause", d, d.many(3), 1);
        Check.given("the second has most points", d, d.wins(), 1);
        Check.given("an empty one", d, d.hall(0), 0);
        Check.given("no names", d, d.many(0), 0);
        Check.given("no sorts", d, d.many(1), 0);
        Check.given("no voters", d, d.many(2), 0);
        Check.given("none stands", d, d.many(4), 0);
        Check.given("the rule stays", d, d.many(3), 1);
        Check.refused("none wins", d, d.wins(), 8);
    }

    /** Of a larger HALL ahead nothing is left that could be counted. */
    private static void nothingOfALarger() {
        String larger = EIGHT + "sort 9 out 9 cost 2 order h g f e d c b a;".repeat(12) + "ties h g f e d c b a;";
        String[] smaller = {"name a; name b; name c off; sort 3 out 1 order a b c; sort 2 order b c a;", "name a; name b;",
            "name a off; name b; name c; sort 1 order c b a; sort 0 out 2 order a b c; sort 2 out 3 order b a c; ties b c a;"};
        String[] rules = {"first;", "runs;", "pairs; near 1;", "bar 34; points 0 1;"};
        for (String text : smaller) {
            for (String rule : rules) {
                DoorList behind = Check.open(larger, rule);
                behind.parted(5);
                behind.safe(1);
                Check.hall(behind, text);
                DoorList alone = Check.open(text, rule);
                answersAlike(rule + " in " + text, behind, alone);
            }
        }
    }

    private static void answersAlike(String what, DoorList behind, DoorList alone) {
        long[] got = answers(behind);
        long[] want = answers(alone);
        for (int i = 0; i < want.length; i++) {
            Check.due("answer " + i + " of " + what, got[i], want[i]);
        }
    }

    private static long[] answers(DoorList d) {
        d.tray(0, 0, 20);
        for (int i = 0; i < 20; i++) {
            d.write(0, i, i % 17);
        }
        long[] all = new long[200];
        int n = 0;
        for (int name = 0; name < 3; name++) {
            all[n++] = d.firsts(name);
            all[n++] = d.beats(name, (name + 1) % 3);
            all[n++] = d.alike(name, (name + 1) % 3);
            all[n++] = d.parting(name);
            all[n++] = d.game(name, 1, 6, 2);
            for (int kinds = 1; kinds <= 3; kinds++) {
                all[n++] = d.names(name, true, kinds, true);
                all[n++] = d.found(0);
                all[n++] = d.names(name, false, kinds, false);
                all[n++] = d.found(1);
            }
            for (int kinds = 4; kinds <= 12; kinds += 4) {
                all[n++] = d.people(name, true, kinds, 5, true);
                all[n++] = d.found(0);
                all[n++] = d.people(name, false, kinds, 5, false);
                all[n++] = d.moved(0);
            }
            for (int many = 0; many <= 3; many++) {
                all[n++] = d.seldom(name, many) ? d.top() * 1000 + d.bottom() : -1;
            }
            all[n++] = d.doubt(0, name) ? d.top() : -1;
            all[n++] = d.bottom();
        }
        all[n++] = d.wins();
        all[n++] = d.cousins();
        all[n++] = d.parted(1);
        all[n++] = d.safe(3);
        all[n++] = d.safe(12);
        all[n++] = d.many(2);
        all[n++] = d.left(1);
        return all;
    }

    private static void fault() {
        Doc.says("Of the latest hall(), rule() or acts() with STATUS 0 or 10, what 0: the FAULT (0 without one), 1: its "
                + "place (NONE without). NONE for others, and ahead of any.");
        DoorList d = new DoorList();
        for (int what : new int[] {0, 1, 2, -1, MIN, MAX}) {
            Check.due("ahead of any, " + what, d.fault(what), -1);
        }
        d.hall(1);
        d.rule(-1);
        d.acts(301);
        d.many(0);
        Check.due("ahead of any with 0 or 10", d.fault(0), -1);
        Check.due("its place", d.fault(1), -1);
        d.rule(0);
        Check.due("0 without one", d.fault(0), 0);
        Check.due("no place", d.fault(1), -1);
        Check.hall(d, "name a; name a;");
        Check.due("of a hall", d.fault(0) * 100 + d.fault(1), 313);
        d.acts(5);
        Check.due("5 leaves it", d.fault(0) * 100 + d.fault(1), 313);
        d.wins();
        Check.due("so do others", d.fault(0) * 100 + d.fault(1), 313);
        Check.rule(d, "near 9;");
        Check.due("of a rule", d.fault(0) * 100 + d.fault(1), 405);
        Check.acts(d, "loop 9; end; end;");
        Check.due("of acts", d.fault(0) * 100 + d.fault(1), 213);
        for (int what : new int[] {2, 3, -1, MIN, MAX}) {
            Check.due("others, " + what, d.fault(what), -1);
        }
        d.acts(0);
        Check.due("of good acts", d.fault(0), 0);
        Check.due("no place", d.fault(1), -1);
        Check.hall(d, "!");
        Check.due("at the first byte", d.fault(1), 0);
    }

    private static void many() {
        Doc.says("How many NAMES (what 0), SORTS (1), voters IN (2), CLAUSES (3), the set of those that STAND (4) (5).");
        DoorList d = Check.open("name a off; name b; name c; sort 99 out 9 order a b c; sort 98 out 8 order a b c;");
        int[] want = {3, 2, 197, 1, 6};
        for (int what = 0; what < 5; what++) {
            Check.given("many " + what, d, d.many(what), want[what]);
        }
        for (int what : new int[] {-1, 5, MIN, MAX}) {
            Check.refused("many " + what, d, d.many(what), 5);
        }
        d = Check.open("name a;" + "sort 99 out 99 order a;".repeat(20));
        Check.given("all voters", d, d.many(2), 1980);
    }

    private static void name() {
        Doc.says("Of a NAME, what 0: 1 if it STANDS, else 0, 1: what it costs, 2: its place in TIES (2; 5).");
        DoorList d = Check.open("name a cost 8; name b off cost 9; ties b a;");
        int[][] want = {{1, 8, 1}, {0, 9, 0}};
        for (int name = 0; name < 2; name++) {
            for (int what = 0; what < 3; what++) {
                Check.given("name " + name + ", " + what, d, d.name(name, what), want[name][what]);
            }
            for (int what : new int[] {-1, 3, MIN, MAX}) {
                Check.refused("name " + name + ", " + what, d, d.name(name, what), 5);
            }
        }
        for (int name : new int[] {-1, 2, 8, MIN, MAX}) {
            Check.refused("name " + name, d, d.name(name, 0), 2);
            Check.refused("2 ahead of 5", d, d.name(name, 3), 2);
        }
    }

    private static void sort() {
        Doc.says("Of a SORT, what 0: how many are IN, 1: out, 2: what one costs (2; 5).");
        DoorList d = Check.open("name a; sort 4 out 5 cost 6 order a; sort 7 out 8 cost 9 order a;");
        for (int sort = 0; sort < 2; sort++) {
            for (int what = 0; what < 3; what++) {
                Check.given("sort " + sort + ", " + what, d, d.sort(sort, what), 4 + 3 * sort + what);
            }
            for (int what : new int[] {-1, 3, MIN, MAX}) {
                Check.refused("sort " + sort + ", " + what, d, d.sort(sort, what), 5);
            }
        }
        for (int sort : new int[] {-1, 2, 20, MIN, MAX}) {
            Check.refused("sort " + sort, d, d.sort(sort, 0), 2);
            Check.refused("2 ahead of 5", d, d.sort(sort, 3), 2);
        }
    }

    private static void order() {
        Doc.says("The NAME at a place of a SORT's ORDER (2; 5).");
        DoorList d = Check.open("name a; name b; sort 1 order b a;");
        Check.given("first", d, d.order(0, 0), 1);
        Check.given("last", d, d.order(0, 1), 0);
        d.stand(1, false);
        Check.given("also one that does not stand", d, d.order(0, 0), 1);
        for (int place : new int[] {-1, 2, 7, 8, MIN, MAX}) {
            Check.refused("place " + place, d, d.order(0, place), 5);
        }
        for (int sort : new int[] {-1, 1, 20, MIN, MAX}) {
            Check.refused("sort " + sort, d, d.order(sort, 0), 2);
            Check.refused("2 ahead of 5", d, d.order(sort, 2), 2);
        }
    }

    private static void stand() {
        Doc.says("A NAME STANDS, or not (2).");
        DoorList d = Check.open(EIGHT);
        for (int name = 7; name >= 0; name--) {
            Check.given("down", d, d.stand(name, false));
            Check.given("who stands", d, d.many(4), (1 << name) - 1);
            Check.given("down again", d, d.stand(name, false));
            Check.given("who stands", d, d.many(4), (1 << name) - 1);
        }
        Check.given("up", d, d.stand(7, true));
        Check.given("up again", d, d.stand(7, true));
        Check.given("who stands", d, d.many(4), 128);
        for (int name : new int[] {-1, 8, 31, 32, MIN, MAX}) {
            Check.refused("stand " + name, d, d.stand(name, true), 2);
            Check.refused("stand " + name, d, d.stand(name, false), 2);
        }
        Check.given("as it was", d, d.many(4), 128);
        DoorList e = Check.open("name a off;");
        Check.refused("name 1 of one", e, e.stand(1, true), 2);
        Check.given("none", e, e.many(4), 0);
    }

    private static void voters() {
        Doc.says("So many of a SORT are IN, so many out (0 to 99 each) (2; 5).");
        DoorList d = Check.open("name a; sort 5 out 6 cost 7 order a; sort 8 order a;");
        int[][] good = {{0, 0}, {0, 99}, {99, 0}, {99, 99}, {1, 2}};
        for (int[] pair : good) {
            Check.given("voters", d, d.voters(0, pair[0], pair[1]));
            Check.given("in", d, d.sort(0, 0), pair[0]);
            Check.given("out", d, d.sort(0, 1), pair[1]);
            Check.given("the cost stays", d, d.sort(0, 2), 7);
            Check.given("the other sort stays", d, d.sort(1, 0), 8);
        }
        int[][] bad = {{-1, 0}, {0, -1}, {100, 0}, {0, 100}, {MIN, 0}, {0, MAX}, {100, -1}};
        for (int[] pair : bad) {
            Check.refused("voters " + pair[0] + ", " + pair[1], d, d.voters(0, pair[0], pair[1]), 5);
            Check.refused("2 ahead of 5", d, d.voters(2, pair[0], pair[1]), 2);
        }
        for (int sort : new int[] {-1, 2, 20, MIN, MAX}) {
            Check.refused("sort " + sort, d, d.voters(sort, 1, 1), 2);
        }
        Check.given("as it was", d, d.sort(0, 0), 1);
        Check.given("out", d, d.sort(0, 1), 2);
    }
}
