/** Promise 9: late. */
public final class Promise09LateTest extends Checks {
    public static void main(String[] args) {
        runAll(Promise09LateTest.class);
    }

    /** 3, 2, 1 with 3 and 1 late. */
    private static RoundSearch twoLate() {
        RoundSearch x = new RoundSearch();
        x.stop(0, 0, 500);
        x.stop(0, 0, EVER);
        x.stop(0, 0, 400);
        x.solve(0);
        return x;
    }

    private static void placeBounds() {
        RoundSearch x = twoLate();
        round("promise 9: the round", x, 3, 2, 1);
        due("promise 9: late(0), by place, not number", x.late(0), 3);
        due("promise 9: late(1)", x.late(1), 1);
        due("promise 9: late(2), none such", x.late(2), 0);
        due("promise 9: late(3), none such", x.late(3), 0);
        due("promise 9: late(-1)", x.late(-1), 0);
        due("promise 9: late of the least", x.late(Integer.MIN_VALUE), 0);
        due("promise 9: late of the greatest", x.late(Integer.MAX_VALUE), 0);
    }

    private static void noneSuchInAnyState() {
        for (Scene scene : Scene.values()) {
            for (int i : new int[] {-1, 20, Integer.MIN_VALUE, Integer.MAX_VALUE}) {
                refused("promise 9: late(" + i + ")", scene, x -> x.late(i), 0);
            }
            if (scene != Scene.LATE) {
                refused("promise 9: late(0)", scene, x -> x.late(0), 0);
            }
        }
        refused("promise 9: one is late", Scene.LATE, x -> x.late(0), 1);
        refused("promise 9: only one", Scene.LATE, x -> x.late(1), 0);
    }

    private static void allTwentyLate() {
        RoundSearch x = new RoundSearch();
        for (int k = 0; k < 20; k++) {
            x.stop(0, 0, 999);
        }
        x.solve(0);
        for (int i = 0; i < 20; i++) {
            due("promise 9: late(" + i + ")", x.late(i), x.at(i));
        }
        due("promise 9: late(20)", x.late(20), 0);
    }

    private static void atUntilAndBehindIt() {
        for (long until : new long[] {998, 999, 1000, 1001}) {
            RoundSearch x = new RoundSearch();
            x.stop(0, 0, until);
            x.solve(0);
            due("promise 9: reached at 1000, until " + until, x.late(0), until < 1000 ? 1 : 0);
        }
    }

    private static void whoWaitsIsNotLate() {
        RoundSearch x = new RoundSearch();
        x.stop(50, 5000, 5000);
        x.solve(0);
        due("promise 9: before FROM", x.late(0), 0);
    }

    private static void theTimeOfAStopMakesTheNextLate() {
        for (long time : new long[] {0, 1}) {
            RoundSearch x = new RoundSearch();
            x.stop(0, 0, 2000);
            x.stop(time, 0, 1000);
            x.solve(0);
            round("promise 9: the round", x, 2, 1);
            due("promise 9: the time before is " + time, x.late(0), time == 0 ? 0 : 1);
        }
    }

    private static void aWaitMakesTheNextLate() {
        RoundSearch x = new RoundSearch();
        x.stop(0, 0, 2000);
        x.stop(0, 1001, 2000);
        x.arc(0, 1, 0);
        x.arc(1, 2, 0);
        x.solve(0);
        round("promise 9: the round", x, 2, 1);
        due("promise 9: the wait before is one", x.late(0), 1);
    }

    private static void theTimeAtALateStopCounts() {
        RoundSearch x = new RoundSearch();
        x.stop(0, 0, 3000);
        x.stop(1001, 0, 0);
        x.arc(0, 1, 0);
        x.solve(0);
        round("promise 9: the round", x, 2, 1);
        due("promise 9: first", x.late(0), 2);
        due("promise 9: it is done its time later than coming", x.late(1), 1);
    }

    /** The round is walked by the ways as they are now. */
    private static void waysToldSince() {
        RoundSearch x = twoLate();
        x.way(0, 3, 400);
        due("promise 9: the first is no longer", x.late(0), 1);
        due("promise 9: there is only one", x.late(1), 0);
        x.way(3, 2, 50);
        x.way(2, 1, 50);
        due("promise 9: none", x.late(0), 0);
        x.way(2, 1, 51);
        due("promise 9: by one second", x.late(0), 1);
    }

    private static void barredIsNotLate() {
        RoundSearch x = withStops(2);
        x.arc(0, 1, 0);
        x.arc(0, 2, 0);
        x.solve(0);
        due("promise 9: barred alone", x.late(0), 0);
    }

    private static void movedSince() {
        RoundSearch x = twoLate();
        x.way(0, 1, 500);
        due("promise 9: exchange", x.exchange(0, 2), 1);
        due("promise 9: another one is late now", x.late(0), 3);
        due("promise 9: the other is not", x.late(1), 0);
    }

    private static void theRoundIsGone() {
        RoundSearch x = twoLate();
        x.freeze(3);
        x.stop(0, 0, 0);
        due("promise 9: by a stop, though late ones are frozen", x.late(0), 0);
        RoundSearch y = twoLate();
        y.freeze(1);
        y.load(1, 1);
        y.limit(0);
        y.solve(0);
        due("promise 9: by the limit", y.late(0), 0);
        due("promise 9: a new object", new RoundSearch().late(0), 0);
        due("promise 9: a round of no stops", Scene.EMPTY_ROUND.make().late(0), 0);
    }

    private static void frozenStopsMayBeLate() {
        RoundSearch x = twoLate();
        x.freeze(3);
        x.solve(0);
        due("promise 9: a frozen one", x.late(0), 3);
        due("promise 9: the last frozen one", x.late(1), 1);
    }
}
