/** Promise 2: stop. */
public final class Promise02StopTest extends Checks {
    public static void main(String[] args) {
        runAll(Promise02StopTest.class);
    }

    private static void timeBounds() {
        for (long time : new long[] {0, 1, 99999, 100000}) {
            RoundSearch x = new RoundSearch();
            due("promise 2: time " + time, x.stop(time, 0, EVER), 1);
            due("promise 2: home with time " + time, x.solve(0), 2000 + time);
        }
        refusedEverywhere("promise 2: time -1", x -> x.stop(-1, 0, 5), OUTSIDE);
        refusedEverywhere("promise 2: time 100001", x -> x.stop(100001, 0, 5), OUTSIDE);
        for (long time : FAR_LONGS) {
            refusedEverywhere("promise 2: time " + time, x -> x.stop(time, 0, 5), OUTSIDE);
        }
    }

    private static void fromBounds() {
        for (long from : new long[] {0, 1, 999999, 1000000}) {
            RoundSearch x = new RoundSearch();
            due("promise 2: from " + from, x.stop(0, from, EVER), 1);
            due("promise 2: home with from " + from, x.solve(0), Math.max(from, 1000) + 1000);
        }
        refusedEverywhere("promise 2: from -1", x -> x.stop(0, -1, 5), OUTSIDE);
        for (long from : FAR_LONGS) {
            refusedEverywhere("promise 2: from " + from, x -> x.stop(0, from, EVER), OUTSIDE);
        }
    }

    private static void untilBounds() {
        for (long until : new long[] {0, 1, 999, 1000, 1001, 999999, 1000000}) {
            RoundSearch x = new RoundSearch();
            due("promise 2: until " + until, x.stop(0, 0, until), 1);
            x.solve(0);
            due("promise 2: late with until " + until, x.late(0), until < 1000 ? 1 : 0);
        }
        refusedEverywhere("promise 2: until 1000001", x -> x.stop(0, 0, 1000001), OUTSIDE);
        for (long until : FAR_LONGS) {
            refusedEverywhere("promise 2: until " + until, x -> x.stop(0, 0, until), OUTSIDE);
        }
    }

    private static void fromAgainstUntil() {
        RoundSearch x = new RoundSearch();
        due("promise 2: both 0", x.stop(0, 0, 0), 1);
        due("promise 2: both 7", x.stop(0, 7, 7), 2);
        due("promise 2: both the greatest", x.stop(0, 1000000, 1000000), 3);
        due("promise 2: until one more", x.stop(0, 6, 7), 4);
        refusedEverywhere("promise 2: from one more", y -> y.stop(0, 7, 6), OUTSIDE);
        refusedEverywhere("promise 2: from one more, at the greatest", y -> y.stop(0, 1000000, 999999), OUTSIDE);
        refusedEverywhere("promise 2: both -1", y -> y.stop(0, -1, -1), OUTSIDE);
        refusedEverywhere("promise 2: both 1000001", y -> y.stop(0, 1000001, 1000001), OUTSIDE);
        for (long far : FAR_LONGS) {
            refusedEverywhere("promise 2: both " + far, y -> y.stop(0, far, far), OUTSIDE);
        }
    }

    /** until - from would wrap around here, and look as if until were the greater one. */
    private static void fromAgainstAnUntilFarBelow() {
        for (long from : new long[] {1, 5, 1000000}) {
            refusedEverywhere("promise 2: from " + from + ", until the least",
                x -> x.stop(0, from, Long.MIN_VALUE), OUTSIDE);
        }
        refusedEverywhere("promise 2: from the greatest, until -2", x -> x.stop(0, Long.MAX_VALUE, -2), OUTSIDE);
    }

    private static void allNumbersWrong() {
        refusedEverywhere("promise 2: all wrong", x -> x.stop(-1, 1000002, 1000001), OUTSIDE);
        refusedEverywhere("promise 2: all far", x -> x.stop(Long.MIN_VALUE, Long.MAX_VALUE, Long.MIN_VALUE), OUTSIDE);
    }

    private static void twentyAndTheOneBeyond() {
        RoundSearch x = new RoundSearch();
        for (int k = 1; k <= 20; k++) {
            due("promise 2: number", x.stop(100000, 0, EVER), k);
        }
        due("promise 2: the one beyond", x.stop(0, 0, EVER), ROOM);
        due("promise 2: and once more", x.stop(0, 0, EVER), ROOM);
    }

    private static void roomChangesNothing() {
        for (Scene scene : Scene.values()) {
            if (scene.stops == 20) {
                refused("promise 2: no room", scene, x -> x.stop(5, 0, EVER), ROOM);
                refused("promise 2: OUTSIDE before ROOM", scene, x -> x.stop(-1, 0, EVER), OUTSIDE);
                refused("promise 2: OUTSIDE before ROOM, span", scene, x -> x.stop(0, 6, 5), OUTSIDE);
            }
        }
    }

    private static void refusedStopsAreNotCounted() {
        RoundSearch x = new RoundSearch();
        for (int k = 0; k < 30; k++) {
            x.stop(-1, 0, 5);
        }
        due("promise 2: the first all the same", x.stop(0, 0, 5), 1);
    }

    private static void thereIsNoRoundThen() {
        RoundSearch x = solvedLine();
        due("promise 2: one more", x.stop(0, 0, EVER), 4);
        due("promise 2: at", atOrThrown(x, 0), THROWN);
        due("promise 2: late", x.late(0), 0);
        due("promise 2: add", x.add(1), STATE);
        due("promise 2: freeze", x.freeze(0), STATE);
        due("promise 2: exchange", x.exchange(0, 1), STATE);
        fails("promise 2: exact", x.exact());
    }

    private static void noRoundAfterRoundOfNoStops() {
        RoundSearch x = Scene.EMPTY_ROUND.make();
        due("promise 2: the first", x.stop(0, 0, EVER), 1);
        due("promise 2: freeze", x.freeze(0), STATE);
        fails("promise 2: exact", x.exact());
    }

    private static void whatIsFrozenStays() {
        RoundSearch x = solvedLine();
        x.freeze(2);
        x.stop(0, 0, EVER);
        x.stop(0, 0, EVER);
        x.way(0, 1, 0);
        x.way(0, 4, 0);
        x.solve(0);
        round("promise 2: frozen 3 and 2 stay", x, 3, 2, 1, 5, 4);
        due("promise 2: the second is frozen", x.exchange(1, 2), STATE);
        due("promise 2: the third is not", x.exchange(2, 3), 0);
    }

    private static void allFrozenAndOneMore() {
        RoundSearch x = solvedLine();
        x.freeze(3);
        x.stop(0, 0, EVER);
        due("promise 2: solve", x.solve(0), 30 + 10 + 10 + 1000 + 1000);
        round("promise 2: the new one behind all frozen", x, 3, 2, 1, 4);
        due("promise 2: the new one is not frozen", x.add(4), 3);
        due("promise 2: the old ones are", x.add(1), STATE);
    }

    private static void nothingFrozenNothingStays() {
        RoundSearch x = solvedLine();
        x.stop(0, 0, EVER);
        x.way(4, 3, 0);
        x.way(0, 4, 0);
        x.solve(0);
        round("promise 2: nothing frozen", x, 4, 3, 2, 1);
    }

    private static void oneStopHasNothingOfAnother() {
        RoundSearch x = new RoundSearch();
        x.stop(5, 0, 0);
        x.stop(7, 3000, EVER);
        due("promise 2: each its own time and span", x.solve(0), 3000 + 7 + 1000);
        round("promise 2: the row", x, 1, 2);
        due("promise 2: late", x.late(0), 1);
        due("promise 2: not late", x.late(1), 0);
    }
}
