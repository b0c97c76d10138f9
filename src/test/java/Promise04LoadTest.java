/** Promise 4: load. */
public final class Promise04LoadTest extends Checks {
    public static void main(String[] args) {
        runAll(Promise04LoadTest.class);
    }

    private static void loadBounds() {
        RoundSearch x = withStops(1);
        for (int n : new int[] {0, 1, 999, 1000, 0}) {
            due("promise 4: n " + n, x.load(1, n), n);
        }
        for (Scene scene : Scene.values()) {
            if (scene.stops >= 1) {
                refused("promise 4: n -1", scene, y -> y.load(1, -1), OUTSIDE);
                refused("promise 4: n 1001", scene, y -> y.load(scene.stops, 1001), OUTSIDE);
                refused("promise 4: n the least", scene, y -> y.load(1, Integer.MIN_VALUE), OUTSIDE);
                refused("promise 4: n the greatest", scene, y -> y.load(1, Integer.MAX_VALUE), OUTSIDE);
            }
        }
    }

    private static void stopBounds() {
        RoundSearch x = withStops(20);
        due("promise 4: the first", x.load(1, 5), 5);
        due("promise 4: the last", x.load(20, 6), 11);
        for (Scene scene : Scene.values()) {
            refused("promise 4: the office", scene, y -> y.load(0, 1), UNKNOWN);
            refused("promise 4: -1", scene, y -> y.load(-1, 1), UNKNOWN);
            refused("promise 4: one beyond", scene, y -> y.load(scene.stops + 1, 1), UNKNOWN);
            refused("promise 4: 21", scene, y -> y.load(21, 1), UNKNOWN);
            refused("promise 4: the least", scene, y -> y.load(Integer.MIN_VALUE, 1), UNKNOWN);
            refused("promise 4: the greatest", scene, y -> y.load(Integer.MAX_VALUE, 1), UNKNOWN);
        }
    }

    private static void unknownBeforeOutside() {
        for (Scene scene : Scene.values()) {
            refused("promise 4: UNKNOWN first, 0", scene, y -> y.load(0, -1), UNKNOWN);
            refused("promise 4: UNKNOWN first, beyond", scene, y -> y.load(scene.stops + 1, 1001), UNKNOWN);
        }
    }

    private static void howMuchAllHave() {
        RoundSearch x = withStops(20);
        for (int k = 1; k <= 20; k++) {
            due("promise 4: all so far", x.load(k, 1000), 1000 * k);
        }
        due("promise 4: anew, not more", x.load(7, 1), 19001);
        due("promise 4: the same again", x.load(7, 1), 19001);
        due("promise 4: none", x.load(7, 0), 19000);
    }

    private static void stopsThatComeHaveNone() {
        RoundSearch x = withStops(1);
        x.load(1, 5);
        x.load(2, 7);
        x.stop(0, 0, EVER);
        due("promise 4: what was told before it came is nothing", x.load(1, 5), 5);
    }

    private static void theRoundStays() {
        RoundSearch x = solvedLine();
        x.limit(3);
        due("promise 4: above the limit", x.load(1, 4), 4);
        round("promise 4: the round stays", x, 3, 2, 1);
        holds("promise 4: it stays exact", x.exact());
    }
}
