/** What the tests share: texts fed to a tape, answers held against those that are due. */
final class Check {
    private static int asked = 0;
    private static int wrong = 0;

    private Check() {
    }

    static void due(String what, long got, long want) {
        asked++;
        if (got != want) {
            wrong++;
            System.out.println(what + " answered " + got + ", due is " + want);
        }
    }

    static void due(String what, boolean got, boolean want) {
        due(what, got ? 1 : 0, want ? 1 : 0);
    }

    /** The call gave NONE (or false, as 0) and left this STATUS. */
    static void refused(String what, DoorList d, long got, int status) {
        due(what, got, DoorList.NONE);
        due("status of " + what, d.status(), status);
    }

    static void refused(String what, DoorList d, boolean got, int status) {
        due(what, got, false);
        due("status of " + what, d.status(), status);
    }

    /** The call gave this answer with STATUS 0. */
    static void given(String what, DoorList d, long got, long want) {
        due(what, got, want);
        due("status of " + what, d.status(), 0);
    }

    static void given(String what, DoorList d, boolean got) {
        due(what, got, true);
        due("status of " + what, d.status(), 0);
    }

    static void fraction(String what, DoorList d, boolean got, long top, long bottom) {
        given(what, d, got);
        due("top of " + what, d.top(), top);
        due("bottom of " + what, d.bottom(), bottom);
    }

    static void fault(String what, DoorList d, long got, int kind, int place) {
        refused(what, d, got, 10);
        due("fault(0) of " + what, d.fault(0), kind);
        due("fault(1) of " + what, d.fault(1), place);
    }

    static void feedText(DoorList d, String text) {
        for (int from = 0; from < text.length(); from += 20) {
            d.feed(four(text, from), four(text, from + 4), four(text, from + 8), four(text, from + 12),
                    four(text, from + 16));
        }
    }

    private static int four(String text, int from) {
        int v = 0;
        for (int i = from; i < from + 4; i++) {
            v = v << 8 | (i < text.length() ? text.charAt(i) & 255 : 32);
        }
        return v;
    }

    static int hall(DoorList d, String text) {
        feedText(d, text);
        return d.hall(text.length());
    }

    static int rule(DoorList d, String text) {
        feedText(d, text);
        return d.rule(text.length());
    }

    static int acts(DoorList d, String text) {
        feedText(d, text);
        return d.acts(text.length());
    }

    static DoorList open(String hall) {
        DoorList d = new DoorList();
        if (hall(d, hall) == DoorList.NONE) {
            due("fault of the hall: " + hall, d.fault(0) * 1000 + d.fault(1), 0);
        }
        return d;
    }

    static DoorList open(String hall, String rule) {
        DoorList d = open(hall);
        if (rule(d, rule) == DoorList.NONE) {
            due("fault of the rule: " + rule, d.fault(0) * 1000 + d.fault(1), 0);
        }
        return d;
    }

    static void fill(DoorList d, int tray, long... numbers) {
        d.tray(tray, 3, numbers.length);
        for (int i = 0; i < numbers.length; i++) {
            d.write(tray, i, numbers[i]);
        }
    }

    static void end(String test) {
        System.out.println(test + ": " + asked + " answers, " + wrong + " wrong");
        if (wrong != 0 || asked == 0) {
            System.exit(1);
        }
    }
}
