/** Promise 6: solve, its numbers and refusals; how it is solved is in TermsSolvedTest. */
public final class Promise06SolveTest extends Checks {
    public static void main(String[] args) {
        runAll(Promise06SolveTest.class);
    }

    private static void stepsBounds() {
        for (long steps : new long[] {0, 1, 99999, 100000}) {
            due("promise 6: steps " + steps, line().solve(steps), 65);
        }
        refusedEverywhere("promise 6: steps -1", x -> x.solve(-1), OUTSIDE);
        refusedEverywhere("promise 6: steps 100001", x -> x.solve(100001), OUTSIDE);
        for (long steps : FAR_LONGS) {
            refusedEverywhere("promise 6: steps " + steps, x -> x.solve(steps), OUTSIDE);
        }
    }

    private static void outsideBeforeState() {
        RoundSearch x = solvedLine();
        x.load(1, 2);
        x.limit(1);
        due("promise 6: OUTSIDE first, -1", x.solve(-1), OUTSIDE);
        due("promise 6: OUTSIDE first, 100001", x.solve(100001), OUTSIDE);
        round("promise 6: the round is not gone by that", x, 3, 2, 1);
        holds("promise 6: nor is it less exact", x.exact());
    }

    private static void stateOnlyAboveTheLimit() {
        RoundSearch x = line();
        x.load(2, 5);
        x.limit(5);
        due("promise 6: at the limit", x.solve(0), 65);
        x.load(3, 1);
        due("promise 6: one above", x.solve(0), STATE);
        due("promise 6: one above, with all steps", x.solve(100000), STATE);
    }

    private static RoundSearch overLimit() {
        RoundSearch x = solvedLine();
        x.freeze(1);
        x.load(1, 2);
        x.limit(1);
        x.solve(0);
        return x;
    }

    private static void noRoundAfterState() {
        RoundSearch x = overLimit();
        round("promise 6: no round", x);
        due("promise 6: late", x.late(0), 0);
        due("promise 6: add", x.add(1), STATE);
        due("promise 6: freeze", x.freeze(0), STATE);
        due("promise 6: exchange", x.exchange(1, 2), STATE);
    }

    private static void nothingElseIsChangedByState() {
        RoundSearch x = overLimit();
        due("promise 6: the loads stay", x.load(2, 0), 2);
        due("promise 6: the bound stays", x.bound(), line().bound());
        due("promise 6: the limit stays", x.solve(0), STATE);
        x.limit(2);
        x.way(0, 3, 900);
        due("promise 6: what is frozen stays", x.solve(0), 935);
        round("promise 6: what is frozen stays", x, 3, 2, 1);
    }

    private static void stateWithoutRoundChangesNothing() {
        refused("promise 6: STATE again", Scene.FROZEN_AND_OVER_LIMIT, x -> x.solve(0), STATE);
    }

    private static void stateBeforeTheFirstRound() {
        RoundSearch x = line();
        x.load(1, 1);
        x.limit(0);
        due("promise 6: STATE", x.solve(0), STATE);
        fails("promise 6: there was no round that was exact", x.exact());
        x.load(1, 0);
        due("promise 6: then solved", x.solve(0), 65);
    }

    private static void answersWhenItIsHome() {
        due("promise 6: without stops", new RoundSearch().solve(7), 0);
        due("promise 6: one stop", withStops(1).solve(7), 2000);
        due("promise 6: a good round", line().solve(7), 65);
        RoundSearch x = new RoundSearch();
        x.stop(3, 0, 0);
        x.arc(0, 1, 0);
        x.arc(1, 0, 0);
        due("promise 6: late and barred, but no cost beside the time", x.solve(7), 2003);
    }

    private static void tellAllWays(RoundSearch x, long t) {
        for (int a = 0; a <= 20; a++) {
            for (int b = 0; b <= 20; b++) {
                if (a != b) {
                    x.way(a, b, t);
                }
            }
        }
    }

    /** Five of the twenty can be reached in time, and the first waits for nobody else. */
    private static void theGreatestTimesAndWays() {
        RoundSearch x = new RoundSearch();
        for (int k = 0; k < 20; k++) {
            x.stop(100000, 0, 1000000);
        }
        tellAllWays(x, 100000);
        due("promise 6: the greatest times and ways", x.solve(0), 41 * 100000);
        due("promise 6: the first that is late", x.late(0), x.at(5));
        due("promise 6: the last that is late", x.late(14), x.at(19));
        due("promise 6: no more are", x.late(15), 0);
    }

    private static void theGreatestOfAll() {
        RoundSearch x = new RoundSearch();
        x.stop(100000, 1000000, 1000000);
        x.solve(0);
        x.freeze(1);
        for (int k = 1; k < 20; k++) {
            x.stop(100000, 0, 0);
        }
        tellAllWays(x, 100000);
        due("promise 6: the longest wait before them all", x.solve(0), 1000000 + 40 * 100000);
        due("promise 6: it is first", x.at(0), 1);
        due("promise 6: all others are late", x.late(18), x.at(19));
        due("promise 6: but not the first", x.late(19), 0);
    }

    private static void zeroEverywhere() {
        RoundSearch x = new RoundSearch();
        for (int k = 0; k < 20; k++) {
            x.stop(0, 0, 0);
        }
        tellAllWays(x, 0);
        due("promise 6: home at 0 with twenty stops", x.solve(0), 0);
        due("promise 6: nobody is late", x.late(0), 0);
    }

    private static void solvedTwiceIsTheSame() {
        for (Scene scene : Scene.values()) {
            RoundSearch x = scene.make();
            x.limit(-1);
            long home = x.solve(50);
            int first = atOrThrown(x, 0);
            boolean exact = x.exact();
            due("promise 6: again, home, " + scene, x.solve(50), home);
            due("promise 6: again, first, " + scene, atOrThrown(x, 0), first);
            due("promise 6: again, exact, " + scene, x.exact() ? 1 : 0, exact ? 1 : 0);
        }
    }
}
