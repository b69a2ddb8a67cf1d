import java.util.ArrayList;
import java.util.Arrays;
import java.util.List;

/**
 * Two objects made alike, one of which takes a call more that is refused: behind it they must answer alike, also
 * where an answer can be had only once (MARKS, ACTS, the tape). Each look is taken at a pair of its own, so that
 * no object has more calls than the document promises for.
 */
final class Twin {
    interface Made {
        void on(DoorList d);
    }

    interface Asked {
        long on(DoorList d);
    }

    private interface Look {
        void at(DoorList d, List<Long> seen);
    }

    private static final Look[] LOOKS = {Twin::lookAtHall, Twin::lookAtTrays, Twin::lookAtTold, Twin::lookAtMarks,
        Twin::lookAtActs};

    private Twin() {
    }

    /** A call that is refused with this STATUS leaves all as it was, the tape and what fault() tells too. */
    static void refused(String what, Made made, Asked call, int status) {
        refusedButTape(what, made, call, DoorList.NONE, status);
        alike(what, made, call, Twin::lookAtTape);
        alike(what, made, call, Twin::lookAtFault);
    }

    static void denied(String what, Made made, Asked call, int status) {
        refusedButTape(what, made, call, 0, status);
        alike(what, made, call, Twin::lookAtTape);
        alike(what, made, call, Twin::lookAtFault);
    }

    /** A text with a FAULT: the tape is empty then and fault() tells it, all else is as it was. */
    static void faulty(String what, Made made, Asked call, int kind, int place) {
        refusedButTape(what, made, call, DoorList.NONE, 10);
        DoorList d = new DoorList();
        made.on(d);
        call.on(d);
        Check.due("fault(0) of " + what, d.fault(0), kind);
        Check.due("fault(1) of " + what, d.fault(1), place);
        Check.due("the tape is empty behind " + what, d.feed(0, 0, 0, 0, 0), 20);
    }

    private static void refusedButTape(String what, Made made, Asked call, long none, int status) {
        DoorList d = new DoorList();
        made.on(d);
        Check.due(what, call.on(d), none);
        Check.due("status of " + what, d.status(), status);
        for (Look look : LOOKS) {
            alike(what, made, call, look);
        }
    }

    private static void alike(String what, Made made, Asked call, Look look) {
        DoorList asked = new DoorList();
        made.on(asked);
        call.on(asked);
        DoorList left = new DoorList();
        made.on(left);
        List<Long> seen = new ArrayList<>();
        List<Long> due = new ArrayList<>();
        look.at(asked, seen);
        look.at(left, due);
        int place = 0;
        while (place < due.size() && place < seen.size() && seen.get(place).equals(due.get(place))) {
            place++;
        }
        Check.due("what " + what + " leaves differs at " + place, seen.equals(due), true);
    }

    private static void see(DoorList d, List<Long> seen, long answer) {
        seen.addAll(Arrays.asList(answer, (long) d.status()));
    }

    private static void lookAtHall(DoorList d, List<Long> seen) {
        for (int what = 0; what < 5; what++) {
            see(d, seen, d.many(what));
        }
        for (int name = 0; name < d.many(0); name++) {
            for (int what = 0; what < 3; what++) {
                see(d, seen, d.name(name, what));
            }
            see(d, seen, d.firsts(name));
        }
        int sorts = d.many(1);
        int names = d.many(0);
        for (int sort = 0; sort < sorts; sort++) {
            for (int what = 0; what < 3; what++) {
                see(d, seen, d.sort(sort, what));
            }
            for (int place = 0; place < names; place++) {
                see(d, seen, d.order(sort, place));
            }
        }
        for (int clauses = 0; clauses < 5; clauses++) {
            see(d, seen, d.left(clauses));
        }
        see(d, seen, d.wins());
    }

    private static void lookAtTrays(DoorList d, List<Long> seen) {
        for (int tray = 0; tray < 4; tray++) {
            for (int place = 0; place < 61; place++) {
                see(d, seen, d.read(tray, place));
                if (d.status() != 0) {
                    break;
                }
            }
            for (int to = 0; to < 4; to++) {
                // whether sorts are unlike tells a TRAY's sort
                see(d, seen, d.pour(tray, 0, to, 0, 0) ? 1 : 0);
            }
        }
    }

    private static void lookAtTold(DoorList d, List<Long> seen) {
        seen.add(d.top());
        seen.add(d.bottom());
        see(d, seen, d.found(0));
        see(d, seen, d.found(1));
        for (int sort = 0; sort < 20; sort++) {
            see(d, seen, d.moved(sort));
        }
        see(d, seen, d.opening());
        for (int what = 0; what < 4; what++) {
            see(d, seen, d.acted(what));
        }
    }

    private static void lookAtMarks(DoorList d, List<Long> seen) {
        for (int mark = 0; mark < 4; mark++) {
            see(d, seen, d.back());
            for (int what = 0; what < 5; what++) {
                see(d, seen, d.many(what));
            }
            see(d, seen, d.wins());
            for (int sort = 0; sort < 3; sort++) {
                see(d, seen, d.sort(sort, 0));
                see(d, seen, d.sort(sort, 1));
            }
            for (int clauses = 0; clauses < 5; clauses++) {
                see(d, seen, d.left(clauses));
            }
        }
    }

    private static void lookAtActs(DoorList d, List<Long> seen) {
        for (int time = 0; time < 2; time++) {
            see(d, seen, d.act());
            for (int what = 0; what < 4; what++) {
                see(d, seen, d.acted(what));
            }
        }
        for (int sort = 0; sort < 3; sort++) {
            see(d, seen, d.sort(sort, 0));
        }
        see(d, seen, d.many(4));
    }

    /** How many bytes there are, and (as a HALL) which. */
    private static void lookAtTape(DoorList d, List<Long> seen) {
        int fed = d.feed(0x20202020, 0x20202020, 0x20202020, 0x20202020, 0x20202020);
        seen.add((long) fed);
        see(d, seen, d.hall(fed == DoorList.NONE ? 700 : fed));
        seen.add((long) d.fault(0));
        seen.add((long) d.fault(1));
        lookAtHall(d, seen);
    }

    private static void lookAtFault(DoorList d, List<Long> seen) {
        for (int what = -1; what < 3; what++) {
            seen.add((long) d.fault(what));
        }
    }
}
