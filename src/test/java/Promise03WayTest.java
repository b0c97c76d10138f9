/** Promise 3: way. */
public final class Promise03WayTest extends Checks {
    public static void main(String[] args) {
        runAll(Promise03WayTest.class);
    }

    private static void secondsBounds() {
        for (long t : new long[] {0, 1, 99999, 100000}) {
            RoundSearch x = withStops(1);
            x.way(0, 1, t);
            due("promise 3: there in " + t, x.solve(0), t + 1000);
            due("promise 3: bound with " + t, x.bound(), t + 1000);
            x.way(1, 0, t);
            due("promise 3: there and back in " + t, x.solve(0), 2 * t);
        }
        for (Scene scene : Scene.values()) {
            if (scene.stops >= 1) {
                nothingComes("promise 3: -1", scene, x -> x.way(0, 1, -1));
                nothingComes("promise 3: 100001", scene, x -> x.way(0, 1, 100001));
                for (long t : FAR_LONGS) {
                    nothingComes("promise 3: " + t, scene, x -> x.way(1, 0, t));
                }
            }
        }
    }

    private static void numberBounds() {
        for (Scene scene : Scene.values()) {
            int beyond = scene.stops + 1;
            for (int other : new int[] {0, scene.stops}) {
                for (int none : new int[] {-1, beyond, 21, 22, Integer.MIN_VALUE, Integer.MAX_VALUE}) {
                    nothingComes("promise 3: from " + none, scene, x -> x.way(none, other, 1));
                    nothingComes("promise 3: to " + none, scene, x -> x.way(other, none, 1));
                }
            }
            nothingComes("promise 3: neither is there", scene, x -> x.way(-1, beyond, 1));
            nothingComes("promise 3: all far", scene,
                x -> x.way(Integer.MAX_VALUE, Integer.MIN_VALUE, Long.MAX_VALUE));
        }
    }

    private static void firstAndLastStop() {
        RoundSearch x = withStops(20);
        x.way(0, 20, 1);
        x.way(20, 19, 2);
        x.way(1, 0, 3);
        due("promise 3: to the last and from the first", x.solve(0), 18000 + 6);
        due("promise 3: the last comes first", x.at(0), 20);
        due("promise 3: the first comes last", x.at(19), 1);
        due("promise 3: bound", x.bound(), 18000 + 6);
    }

    private static void bothTheSame() {
        for (Scene scene : Scene.values()) {
            nothingComes("promise 3: the office twice", scene, x -> x.way(0, 0, 1));
            nothingComes("promise 3: a stop twice", scene, x -> x.way(scene.stops, scene.stops, 1));
        }
    }

    private static void oneDirectionAlone() {
        RoundSearch x = withStops(2);
        x.way(0, 1, 7);
        x.way(1, 2, 8);
        x.way(2, 0, 9);
        due("promise 3: 0, 1, 2, 0", x.solve(0), 24);
        x.arc(1, 2, 0);
        due("promise 3: the other direction is untold", x.solve(0), 3000);
    }

    private static void toldAgain() {
        RoundSearch x = withStops(1);
        x.way(0, 1, 7);
        x.way(0, 1, 3);
        due("promise 3: the latest counts", x.solve(0), 1003);
        x.way(0, 1, 100001);
        due("promise 3: nothing came of the last one", x.solve(0), 1003);
    }

    private static void untoldForStopsThatCome() {
        RoundSearch x = withStops(1);
        x.way(0, 1, 1);
        x.way(1, 0, 1);
        x.stop(0, 0, EVER);
        due("promise 3: 1000 to and from a new one", x.solve(0), 2001);
        due("promise 3: and so for the bound", x.bound(), 1 + 1000 + 1);
    }

    private static void theRoundStays() {
        RoundSearch x = solvedLine();
        x.freeze(1);
        x.way(0, 1, 0);
        round("promise 3: the round stays", x, 3, 2, 1);
        due("promise 3: what is frozen stays", x.add(3), STATE);
        due("promise 3: what is free is free", x.add(1), 2);
    }

    private static void barredStaysBarred() {
        RoundSearch x = withStops(1);
        x.arc(0, 1, 0);
        x.way(0, 1, 5);
        due("promise 3: told, but barred", x.bound(), -1);
        due("promise 3: free again", x.arc(0, 1, 1), 0);
        due("promise 3: it was told while it was barred", x.bound(), 1005);
    }
}
