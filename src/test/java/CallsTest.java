import com.sun.management.ThreadMXBean;
import java.lang.management.ManagementFactory;

/** Section 'What it is': 512 calls on one object, all of them answered as the first ones are. */
public final class CallsTest extends Checks {
    private static final int CALLS = 512;

    public static void main(String[] args) {
        runAll(CallsTest.class);
    }

    private static void stopsAndNoRoom() {
        RoundSearch x = new RoundSearch();
        for (int call = 1; call <= CALLS; call++) {
            due("promise 2: call " + call, x.stop(0, 0, EVER), call <= 20 ? call : ROOM);
        }
    }

    private static void solvedExactlyAgainAndAgain() {
        RoundSearch x = withStops(11);
        for (int call = 12; call < CALLS; call++) {
            due("promise 6: call " + call, x.solve(100000), 12000);
        }
        holds("promise 8: the last call", x.exact());
    }

    /**
     * Not a promise, but rule 12 of LANGUAGE.md: what a run makes is counted. So the table of an exact search must be
     * made once, not at each call; how it is held is free.
     */
    private static void theSameRoomIsUsedAgain() {
        ThreadMXBean threads = (ThreadMXBean) ManagementFactory.getThreadMXBean();
        RoundSearch x = withStops(11);
        long thread = Thread.currentThread().getId();
        long before = threads.getThreadAllocatedBytes(thread);
        for (int call = 12; call <= CALLS; call++) {
            x.solve(0);
        }
        long bytes = threads.getThreadAllocatedBytes(thread) - before;
        holds("rule 12: 501 exact searches took " + bytes + " bytes", bytes < 4000000);
    }

    private static void insertedAgainAndAgain() {
        RoundSearch x = withStops(20);
        for (int call = 21; call <= CALLS; call++) {
            due("promise 6: call " + call, x.solve(100000), 21000);
        }
    }

    private static void thrownAgainAndAgain() {
        RoundSearch x = new RoundSearch();
        for (int call = 1; call <= CALLS; call++) {
            due("promise 7: call " + call, atOrThrown(x, 0), THROWN);
        }
    }

    private static void barredAndFreeAgainAndAgain() {
        RoundSearch x = withStops(1);
        for (int call = 2; call <= CALLS; call++) {
            due("promise 12: call " + call, x.arc(0, 1, call % 2), 1 - call % 2);
        }
    }

    private static void loadedAgainAndAgain() {
        RoundSearch x = withStops(1);
        for (int call = 2; call <= CALLS; call++) {
            due("promise 4: call " + call, x.load(1, 1000), 1000);
        }
    }

    private static void frozenAndFreeAgainAndAgain() {
        RoundSearch x = solvedLine();
        for (int call = 20; call <= CALLS; call++) {
            due("promise 10: call " + call, x.freeze(call % 4), call % 4);
        }
    }

    private static void movedAgainAndAgain() {
        RoundSearch x = withStops(3);
        x.solve(0);
        for (int call = 5; call <= CALLS; call++) {
            due("promise 11: call " + call, x.add(call % 3 + 1), 0);
        }
    }

    /** The short way is turned each time, so that each exchange is done. */
    private static void exchangedAgainAndAgain() {
        RoundSearch x = withStops(2);
        x.solve(0);
        for (int call = 4; call + 3 <= CALLS; call += 3) {
            boolean turned = call % 2 == 0;
            x.way(1, 2, turned ? 0 : 1000);
            x.way(2, 1, turned ? 1000 : 0);
            due("promise 13: call " + (call + 2), x.exchange(0, 1), 1);
        }
    }

    private static void theLastCallOfMany() {
        for (Scene scene : Scene.values()) {
            RoundSearch x = scene.make();
            for (int k = 0; k < 300; k++) {
                refuse(x, k);
            }
            Later.LOOKED_AT.same("promise 1 to 14: behind 300 refused calls, " + scene, x, scene.make());
        }
    }

    private static void refuse(RoundSearch x, int k) {
        switch (k % 10) {
            case 0 -> due("promise 2: refused", x.stop(-1, 0, 0), OUTSIDE);
            case 1 -> x.way(0, 21, 1);
            case 2 -> due("promise 4: refused", x.load(21, 0), UNKNOWN);
            case 3 -> due("promise 5: refused", x.limit(-2), OUTSIDE);
            case 4 -> due("promise 6: refused", x.solve(-1), OUTSIDE);
            case 5 -> due("promise 7: thrown", atOrThrown(x, -1), THROWN);
            case 6 -> due("promise 10: refused", x.freeze(-1), UNKNOWN);
            case 7 -> due("promise 11: refused", x.add(21), UNKNOWN);
            case 8 -> due("promise 12: refused", x.arc(0, 0, 0), OUTSIDE);
            default -> due("promise 13: refused", x.exchange(-1, 0), UNKNOWN);
        }
    }
}
