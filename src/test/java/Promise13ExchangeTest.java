/** Promise 13: exchange. */
public final class Promise13ExchangeTest extends Checks {
    public static void main(String[] args) {
        runAll(Promise13ExchangeTest.class);
    }

    private static void placeBounds() {
        for (Scene scene : Scene.values()) {
            if (scene.hasRound()) {
                for (int none : new int[] {-1, scene.places, 20, Integer.MIN_VALUE, Integer.MAX_VALUE}) {
                    refused("promise 13: first " + none, scene, x -> x.exchange(none, 0), UNKNOWN);
                    refused("promise 13: second " + none, scene, x -> x.exchange(0, none), UNKNOWN);
                    refused("promise 13: second behind the last, " + none, scene,
                        x -> x.exchange(scene.places - 1, none), UNKNOWN);
                }
            }
        }
    }

    private static void unknownBeforeState() {
        for (Scene scene : Scene.values()) {
            refused("promise 13: -1 twice", scene, x -> x.exchange(-1, -1), UNKNOWN);
            if (scene.hasRound()) {
                refused("promise 13: beyond twice", scene, x -> x.exchange(scene.places, scene.places), UNKNOWN);
            }
        }
    }

    /** Without a round all numbers from 0 on are places. */
    private static void withoutRound() {
        for (Scene scene : Scene.values()) {
            if (!scene.hasRound()) {
                refused("promise 13: 0, 1", scene, x -> x.exchange(0, 1), STATE);
                refused("promise 13: 0, 0", scene, x -> x.exchange(0, 0), STATE);
                refused("promise 13: far", scene, x -> x.exchange(Integer.MAX_VALUE, 20), STATE);
                refused("promise 13: far, the same", scene,
                    x -> x.exchange(Integer.MAX_VALUE, Integer.MAX_VALUE), STATE);
                refused("promise 13: first -1", scene, x -> x.exchange(-1, 0), UNKNOWN);
                refused("promise 13: second -1", scene, x -> x.exchange(0, -1), UNKNOWN);
                refused("promise 13: the least and the greatest", scene,
                    x -> x.exchange(Integer.MIN_VALUE, Integer.MAX_VALUE), UNKNOWN);
            }
        }
    }

    private static void theSame() {
        for (Scene scene : Scene.values()) {
            for (int i = 0; i < scene.places; i++) {
                int place = i;
                refused("promise 13: the same " + i, scene, x -> x.exchange(place, place), STATE);
            }
        }
    }

    private static void frozen() {
        for (Scene scene : Scene.values()) {
            for (int i = 0; i < scene.frozen && scene.hasRound(); i++) {
                int place = i;
                int last = scene.places - 1;
                refused("promise 13: first frozen " + i, scene, x -> x.exchange(place, last), STATE);
                refused("promise 13: second frozen " + i, scene, x -> x.exchange(last, place), STATE);
            }
        }
    }

    private static void firstFreeAndLastPlace() {
        RoundSearch x = withStops(4);
        x.solve(0);
        x.freeze(2);
        x.way(3, 1, 900);
        due("promise 13: the frozen beside", x.exchange(1, 2), STATE);
        due("promise 13: first free and last", x.exchange(2, 3), 1);
        round("promise 13: first free and last", x, 4, 3, 1, 2);
    }

    private static void notLessIsNotDone() {
        refused("promise 13: more", Scene.EXACT, x -> x.exchange(0, 1), 0);
        RoundSearch x = solvedLine();
        due("promise 13: alike is not less", x.exchange(0, 2), 0);
        round("promise 13: alike is not less", x, 3, 2, 1);
    }

    private static void lessByOneSecond() {
        RoundSearch x = solvedLine();
        x.way(1, 2, 9);
        due("promise 13: less by one", x.exchange(0, 2), 1);
        round("promise 13: less by one", x, 1, 2, 3);
        due("promise 13: back would be more", x.exchange(0, 2), 0);
        round("promise 13: back would be more", x, 1, 2, 3);
    }

    private static void theGreaterPlaceFirst() {
        RoundSearch x = solvedLine();
        x.way(1, 2, 9);
        due("promise 13: j before i", x.exchange(2, 0), 1);
        round("promise 13: j before i", x, 1, 2, 3);
    }

    private static void besideEachOther() {
        RoundSearch x = solvedLine();
        x.way(3, 1, 0);
        due("promise 13: 3, 1, 2 would be home at 65, too", x.exchange(1, 2), 0);
        x.way(2, 0, 24);
        due("promise 13: and now before", x.exchange(1, 2), 1);
        round("promise 13: and now before", x, 3, 1, 2);
    }

    /** A fault weighs more than all time that a round may take. */
    private static void faultsCountMoreThanTime() {
        RoundSearch x = withStops(1);
        x.stop(0, 900000, 900000);
        x.solve(0);
        round("promise 13: 1, then the wait at 2", x, 1, 2);
        x.way(0, 2, 100000);
        x.way(2, 1, 100000);
        x.way(1, 0, 100000);
        due("promise 13: later home", x.exchange(0, 1), 0);
        x.arc(2, 0, 0);
        due("promise 13: later home, but a fault less", x.exchange(0, 1), 1);
        round("promise 13: later home, but a fault less", x, 2, 1);
    }

    private static void lateAndBarredWeighAlike() {
        RoundSearch x = new RoundSearch();
        x.stop(0, 0, 1999);
        x.stop(0, 0, EVER);
        x.arc(0, 1, 0);
        x.solve(0);
        round("promise 13: late at 1 beside barred to 1", x, 2, 1);
        due("promise 13: a fault each, alike home", x.exchange(0, 1), 0);
        x.way(0, 1, 999);
        due("promise 13: a fault each, sooner home", x.exchange(0, 1), 1);
        round("promise 13: a fault each, sooner home", x, 1, 2);
    }

    private static void lateAndBarredHomeWeighAlike() {
        RoundSearch x = withStops(1);
        x.stop(0, 0, 1999);
        x.arc(0, 2, 0);
        x.way(0, 2, 1001);
        x.solve(0);
        round("promise 13: late at 2 beside barred to 2", x, 1, 2);
        x.arc(0, 2, 1);
        x.arc(1, 0, 0);
        x.way(1, 0, 999);
        due("promise 13: late beside barred home, alike home", x.exchange(0, 1), 0);
        x.way(1, 0, 998);
        due("promise 13: late beside barred home, sooner home", x.exchange(0, 1), 1);
        round("promise 13: late beside barred home, sooner home", x, 2, 1);
    }

    private static void barredHomeCounts() {
        RoundSearch x = solvedLine();
        x.arc(1, 0, 0);
        due("promise 13: home from 3 is free", x.exchange(0, 2), 1);
        round("promise 13: home from 3 is free", x, 1, 2, 3);
    }

    private static void roundsOfOneAndNone() {
        RoundSearch x = Scene.ONE_STOP.make();
        due("promise 13: one stop, 0, 0", x.exchange(0, 0), STATE);
        due("promise 13: one stop, 0, 1", x.exchange(0, 1), UNKNOWN);
        RoundSearch y = Scene.EMPTY_ROUND.make();
        due("promise 13: no stops, 0, 0", y.exchange(0, 0), UNKNOWN);
    }
}
