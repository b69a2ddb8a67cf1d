import java.lang.management.ManagementFactory;
import java.util.Arrays;
import java.util.Random;

/**
 * Promises 1 to 42 under any arguments in any state: no call throws, a call with another STATUS than 0 gives
 * NONE and changes nothing that can be looked at, and calls make no objects, since all share one room.
 */
public final class FuzzTest {
    private static final Random RANDOM = new Random(42);
    private static final int CALLS = 512;
    private static final int[] EDGES = {0, 0, 0, 1, 1, 1, 2, 2, 3, 3, 4, 5, 6, 7, 8, 9, 12, 15, 20, 21, 60, 61, 99, 100,
        255, 256, -1, -2, Integer.MIN_VALUE, Integer.MAX_VALUE, 1 << 19, 1 << 20};
    private static final String[] HALLS = {
        "name a; name b; name c off cost 3; sort 3 out 2 order a b c; sort 2 cost 2 order b a c; ties b a c;",
        "name a off; name b off; sort 1 order a b;", "",
        "name a;name b;name c;name d;name e;name f off;name g off;name h;sort 2 out 1 order a b c d e f g h;"
            + "sort 1 out 3 order h g f e d c b a;sort 2 order c a e g b d f h;sort 0 order b d a c f h e g;",
        "name x; name y; sort 99 order x y; sort 99 out 99 cost 0 order y x;", "name a; sort 1", "name a!"};
    private static final String[] RULES = {"first;", "points 3 2 1; runs;", "pairs; near 2; bar 20; runs;", "", "runs;",
        "near 9;", "bar 30; first;"};
    private static final String[] ACTS = {"up c; down a; in 0 1; out 1 1;", "loop 9; loop 9; loop 9; in 0 1; out 0 1; end;"
        + "end; end;", "spend 9; until b; out 0 1; end; when not a; up c; end;", "", "loop 1;", "until zed; end;"};

    public static void main(String[] args) {
        for (int run = 0; run < 150; run++) {
            oneRun();
        }
        room();
        Check.end("FuzzTest");
    }

    private static int any() {
        return EDGES[RANDOM.nextInt(EDGES.length)];
    }

    private static boolean yes() {
        return RANDOM.nextBoolean();
    }

    private static String one(String[] of) {
        return of[RANDOM.nextInt(of.length)];
    }

    private static void oneRun() {
        DoorList d = new DoorList();
        if (yes()) {
            Check.hall(d, one(HALLS));
        }
        for (int i = 0; i < CALLS; i++) {
            int call = RANDOM.nextInt(41);
            long[] before = look(d);
            int status = d.status();
            long got = call(d, call);
            boolean hasNone = call <= 3 || call == 39;
            if (hasNone) {
                Check.due("call " + call + " has no status", d.status(), status);
                continue;
            }
            status = d.status();
            Check.due("status of call " + call, status >= 0 && status <= 11, true);
            if (status != 0) {
                boolean truth = call >= 33;
                Check.due("refused call " + call, got, truth && call < 39 ? 0 : -1);
                Check.due("state behind refused call " + call, Arrays.equals(before, look(d)), true);
            }
        }
    }

    private static long call(DoorList d, int call) {
        switch (call) {
            case 0: return d.status();
            case 1: return d.top();
            case 2: return d.bottom();
            case 3: return d.fault(any());
            case 4: return d.read(any(), any());
            case 5: return Check.hall(d, one(HALLS));
            case 6: return Check.rule(d, one(RULES));
            case 7: return d.many(any());
            case 8: return d.name(any(), any());
            case 9: return d.sort(any(), any());
            case 10: return d.order(any(), any());
            case 11: return d.wins();
            case 12: return d.firsts(any());
            case 13: return moreThanNone(d, d.beats(any(), any()));
            case 14: return d.left(any());
            case 15: return d.told(any(), any());
            case 16: return d.cost(any(), any());
            case 17: return d.names(any(), yes(), any(), yes());
            case 18: return d.people(any(), yes(), any(), any(), yes());
            case 19: return d.found(any());
            case 20: return moreThanNone(d, d.moved(any()));
            case 21: return d.safe(any());
            case 22: return d.parted(any());
            case 23: return d.parting(any());
            case 24: return d.cousins();
            case 25: return d.alike(any(), any());
            case 26: return d.game(any(), any(), any(), any());
            case 27: return d.opening();
            case 28: return Check.acts(d, one(ACTS));
            case 29: return d.act();
            case 30: return d.acted(any());
            case 31: return d.mark();
            case 32: return d.back();
            case 33: return d.tray(any(), any(), any()) ? 1 : 0;
            case 34: return d.write(any(), any(), any()) ? 1 : 0;
            case 35: return d.pour(any(), any(), any(), any(), any()) ? 1 : 0;
            case 36: return d.stand(any(), yes()) ? 1 : 0;
            case 37: return d.voters(any(), any(), any()) ? 1 : 0;
            case 38: return (yes() ? d.doubt(any(), any()) : d.seldom(any(), any())) ? 1 : 0;
            case 39: return d.feed(any(), any(), any(), any(), any());
            default: return d.hall(-1 - RANDOM.nextInt(9));
        }
    }

    private static long moreThanNone(DoorList d, long got) {
        return d.status() == 0 ? 0 : got;
    }

    /** All that can be looked at, but for the tape and what fault() tells; the STATUS is lost by it. */
    private static long[] look(DoorList d) {
        long[] seen = new long[1000];
        int n = 0;
        seen[n++] = d.top();
        seen[n++] = d.bottom();
        for (int i = 0; i < 5; i++) {
            seen[n++] = d.many(i);
        }
        for (int i = 0; i < 8; i++) {
            for (int k = 0; k < 3; k++) {
                seen[n++] = d.name(i, k);
            }
        }
        for (int i = 0; i < 20; i++) {
            for (int k = 0; k < 3; k++) {
                seen[n++] = d.sort(i, k);
            }
            for (int k = 0; k < 8; k++) {
                seen[n++] = d.order(i, k);
            }
            seen[n++] = d.moved(i);
        }
        for (int i = 0; i < 4; i++) {
            for (int k = 0; k < 61; k++) {
                seen[n++] = d.read(i, k);
            }
            seen[n++] = d.acted(i);
            seen[n++] = d.left(i);
        }
        seen[n++] = d.found(0);
        seen[n++] = d.found(1);
        seen[n++] = d.opening();
        seen[n++] = d.wins();
        return seen;
    }

    private static void room() {
        com.sun.management.ThreadMXBean bean =
                (com.sun.management.ThreadMXBean) ManagementFactory.getThreadMXBean();
        DoorList d = Check.open(HALLS[3], RULES[2]);
        Check.fill(d, 0, 4, 8, 12, 16);
        Check.acts(d, ACTS[1]);
        everything(d);
        long before = bean.getCurrentThreadAllocatedBytes();
        for (int i = 0; i < 10; i++) {
            everything(d);
        }
        long made = bean.getCurrentThreadAllocatedBytes() - before;
        Check.due("bytes made by calls: " + made, made < 4096, true);
        before = bean.getCurrentThreadAllocatedBytes();
        DoorList e = new DoorList();
        made = bean.getCurrentThreadAllocatedBytes() - before;
        Check.due("bytes made by a new object: " + made, made < 40000 && e.status() == 0, true);
    }

    private static void everything(DoorList d) {
        d.mark();
        d.tray(1, 3, 60);
        d.write(1, 0, 5);
        d.read(1, 0);
        d.pour(1, 0, 1, 1, 50);
        d.feed(0x20202020, 0x20202020, 0x20202020, 0x20202020, 0x20202020);
        d.feed(0x6e616d65, 0x20613b20, 0x20202020, 0x20202020, 0x20202020);
        d.hall(40);
        d.feed(0x72756e73, 0x3b20613b, 0x20202020, 0x20202020, 0x20202020);
        d.rule(5);
        d.back();
        d.wins();
        d.told(1, 1);
        d.cost(1, 1);
        d.names(1, true, 3, true);
        d.people(1, true, 12, 5, true);
        d.safe(12);
        d.parting(6);
        d.cousins();
        d.alike(0, 1);
        d.game(1, 15, 240, 3);
        d.doubt(0, 0);
        d.seldom(0, 5);
        d.act();
        d.feed(0x7570613b, 0x20202020, 0x20202020, 0x20202020, 0x20202020);
        d.acts(20);
    }
}
