/** Promise 11: add. */
public final class Promise11AddTest extends Checks {
    public static void main(String[] args) {
        runAll(Promise11AddTest.class);
    }

    private static void stopBounds() {
        for (Scene scene : Scene.values()) {
            int beyond = scene.stops + 1;
            for (int stop : new int[] {0, -1, beyond, 21, Integer.MIN_VALUE, Integer.MAX_VALUE}) {
                refused("promise 11: add(" + stop + ")", scene, x -> x.add(stop), UNKNOWN);
            }
        }
    }

    private static void stateWithoutRound() {
        for (Scene scene : Scene.values()) {
            for (int stop = 1; stop <= scene.stops && !scene.hasRound(); stop++) {
                int one = stop;
                refused("promise 11: add(" + stop + ") without round", scene, x -> x.add(one), STATE);
            }
        }
    }

    private static void stateIfFrozen() {
        for (Scene scene : Scene.values()) {
            for (int i = 0; i < scene.frozen && scene.hasRound(); i++) {
                int place = i;
                refused("promise 11: frozen at " + i, scene, x -> x.add(x.at(place)), STATE);
            }
        }
    }

    private static void firstAndLastFreeStop() {
        RoundSearch x = solvedLine();
        x.freeze(1);
        due("promise 11: the last frozen", x.add(3), STATE);
        due("promise 11: the first free", x.add(2), 1);
        due("promise 11: the last free", x.add(1), 2);
        x.freeze(2);
        due("promise 11: the only free one", x.add(1), 2);
        RoundSearch y = Scene.ONE_STOP.make();
        due("promise 11: the only stop", y.add(1), 0);
        round("promise 11: the only stop", y, 1);
    }

    /** On the line the ends cost alike at every place from which they are not passed twice. */
    private static void firstOfAlikePlaces() {
        RoundSearch x = solvedLine();
        due("promise 11: to the front", x.add(1), 0);
        round("promise 11: to the front", x, 1, 3, 2);
        due("promise 11: to the middle", x.add(2), 1);
        round("promise 11: to the middle", x, 1, 2, 3);
        RoundSearch y = withStops(20);
        y.solve(0);
        due("promise 11: all alike", y.add(1), 0);
        due("promise 11: all alike, again", y.add(10), 0);
        round("promise 11: all alike", y, 10, 1, 20, 19, 18, 17, 16, 15, 14, 13, 12, 11, 9, 8, 7, 6, 5, 4, 3, 2);
    }

    private static void behindTheFrozen() {
        RoundSearch x = withStops(4);
        x.solve(0);
        x.freeze(2);
        due("promise 11: first place behind two frozen", x.add(1), 2);
        round("promise 11: first place behind two frozen", x, 4, 3, 1, 2);
    }

    private static void atTheEnd() {
        RoundSearch x = solvedLine();
        x.way(3, 0, 0);
        due("promise 11: to the end", x.add(3), 2);
        round("promise 11: to the end", x, 2, 1, 3);
    }

    private static void twentyToTheEnd() {
        RoundSearch x = withStops(20);
        x.solve(0);
        x.way(20, 0, 0);
        due("promise 11: to the twentieth place", x.add(20), 19);
        due("promise 11: there it is", x.at(19), 20);
        due("promise 11: the next is first", x.at(0), 19);
    }

    private static void itMovesThoughNothingIsLessByIt() {
        RoundSearch x = withStops(3);
        x.solve(0);
        due("promise 11: alike, but first", x.add(2), 0);
        round("promise 11: alike, but first", x, 2, 3, 1);
    }

    private static void faultsCountMoreThanTime() {
        RoundSearch x = solvedLine();
        x.arc(0, 3, 0);
        x.arc(2, 3, 0);
        due("promise 11: the way that is not barred", x.add(3), 2);
        round("promise 11: the way that is not barred", x, 2, 1, 3);
    }

    private static void othersKeepTheirRow() {
        RoundSearch x = withStops(5);
        x.solve(0);
        x.way(5, 3, 0);
        x.way(3, 4, 0);
        due("promise 11: between", x.add(3), 1);
        round("promise 11: between", x, 5, 3, 4, 2, 1);
    }
}
