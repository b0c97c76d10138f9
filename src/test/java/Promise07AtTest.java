/** Promise 7: at. */
public final class Promise07AtTest extends Checks {
    public static void main(String[] args) {
        runAll(Promise07AtTest.class);
    }

    private static void placesOfTheRound() {
        RoundSearch x = solvedLine();
        due("promise 7: the first", atOrThrown(x, 0), 3);
        due("promise 7: the second", atOrThrown(x, 1), 2);
        due("promise 7: the last", atOrThrown(x, 2), 1);
    }

    private static void allTwenty() {
        RoundSearch x = withStops(20);
        x.solve(0);
        for (int i = 0; i < 20; i++) {
            due("promise 7: at " + i, atOrThrown(x, i), 20 - i);
        }
        due("promise 7: at 20", atOrThrown(x, 20), THROWN);
    }

    private static void whereThereIsNone() {
        for (Scene scene : Scene.values()) {
            int beyond = Math.max(scene.places, 0);
            for (int i : new int[] {-1, beyond, beyond + 1, 20, Integer.MIN_VALUE, Integer.MAX_VALUE}) {
                refused("promise 7: at " + i, scene, x -> atOrThrown(x, i), THROWN);
            }
        }
    }

    private static void noRound() {
        due("promise 7: a new object", atOrThrown(new RoundSearch(), 0), THROWN);
        due("promise 7: not solved yet", atOrThrown(line(), 0), THROWN);
        due("promise 7: a round of no stops", atOrThrown(Scene.EMPTY_ROUND.make(), 0), THROWN);
        due("promise 7: gone by a stop", atOrThrown(Scene.FROZEN_AND_A_STOP_CAME.make(), 0), THROWN);
        due("promise 7: gone by the limit", atOrThrown(Scene.FROZEN_AND_OVER_LIMIT.make(), 0), THROWN);
    }

    private static void throwsJustThis() {
        Class<?> thrown = null;
        try {
            solvedLine().at(3);
        } catch (RuntimeException e) {
            thrown = e.getClass();
        }
        holds("promise 7: no class below or above", thrown == ArrayIndexOutOfBoundsException.class);
    }
}
