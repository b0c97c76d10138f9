/** Promise 10: freeze. */
public final class Promise10FreezeTest extends Checks {
    public static void main(String[] args) {
        runAll(Promise10FreezeTest.class);
    }

    private static void numberBounds() {
        for (Scene scene : Scene.values()) {
            for (int n = 0; n <= scene.places; n++) {
                due("promise 10: freeze(" + n + ") in " + scene, scene.make().freeze(n), n);
            }
        }
    }

    private static void unknownBelowAndAbove() {
        refusedEverywhere("promise 10: -1", x -> x.freeze(-1), UNKNOWN);
        refusedEverywhere("promise 10: the least", x -> x.freeze(Integer.MIN_VALUE), UNKNOWN);
        for (Scene scene : Scene.values()) {
            if (scene.hasRound()) {
                refused("promise 10: one above", scene, x -> x.freeze(scene.places + 1), UNKNOWN);
                refused("promise 10: 21", scene, x -> x.freeze(21), UNKNOWN);
                refused("promise 10: the greatest", scene, x -> x.freeze(Integer.MAX_VALUE), UNKNOWN);
            }
        }
    }

    /** Without a round all numbers from 0 on are places. */
    private static void stateWithoutRound() {
        for (Scene scene : Scene.values()) {
            if (!scene.hasRound()) {
                for (int n : new int[] {0, 1, scene.stops, scene.stops + 1, 21, Integer.MAX_VALUE}) {
                    refused("promise 10: " + n + " without round", scene, x -> x.freeze(n), STATE);
                }
            }
        }
    }

    private static void frozenFromNowOn() {
        RoundSearch x = solvedLine();
        x.freeze(2);
        due("promise 10: the first", x.add(3), STATE);
        due("promise 10: the second", x.add(2), STATE);
        due("promise 10: the third is free", x.add(1), 2);
        x.way(0, 3, 900);
        due("promise 10: it begins with them", x.solve(0), 935);
        round("promise 10: it begins with them", x, 3, 2, 1);
        due("promise 10: and they stay so", x.add(2), STATE);
    }

    private static void othersAreNot() {
        RoundSearch x = solvedLine();
        x.freeze(3);
        due("promise 10: all, then fewer", x.freeze(1), 1);
        due("promise 10: the second is free again", x.exchange(1, 2), 0);
        due("promise 10: the first is not", x.exchange(0, 1), STATE);
        due("promise 10: none", x.freeze(0), 0);
        due("promise 10: the first is free again", x.exchange(0, 1), 0);
        x.way(0, 3, 900);
        due("promise 10: it begins with another", x.solve(0), 65);
        round("promise 10: it begins with another", x, 2, 3, 1);
    }

    private static void moreThanBefore() {
        RoundSearch x = solvedLine();
        x.freeze(1);
        x.freeze(2);
        due("promise 10: the second, too", x.add(2), STATE);
        due("promise 10: the third is free", x.add(1), 2);
    }

    private static void refusedKeepsWhatIsFrozen() {
        RoundSearch x = solvedLine();
        x.freeze(2);
        x.freeze(-1);
        x.freeze(4);
        due("promise 10: the second still", x.add(2), STATE);
        due("promise 10: the third still not", x.add(1), 2);
    }

    private static void frozenWhileThereIsNoRound() {
        RoundSearch x = solvedLine();
        x.freeze(2);
        x.stop(0, 0, EVER);
        due("promise 10: cannot be changed", x.freeze(0), STATE);
        due("promise 10: add of a frozen one", x.add(3), STATE);
        due("promise 10: add of a free one", x.add(1), STATE);
        x.solve(0);
        due("promise 10: 3 still first", x.at(0), 3);
        due("promise 10: 2 still second", x.at(1), 2);
    }

    private static void theFrozenAreThoseOfTheRoundNow() {
        RoundSearch x = solvedLine();
        x.way(1, 2, 0);
        due("promise 10: exchange", x.exchange(0, 2), 1);
        x.freeze(1);
        x.way(0, 1, 5000);
        x.solve(0);
        due("promise 10: 1 was first when it was frozen", x.at(0), 1);
    }

    private static void roundOfNoStops() {
        RoundSearch x = Scene.EMPTY_ROUND.make();
        due("promise 10: 0 of none", x.freeze(0), 0);
        due("promise 10: 1 of none", x.freeze(1), UNKNOWN);
    }
}
