/** Promise 14: bound. */
public final class Promise14BoundTest extends Checks {
    public static void main(String[] args) {
        runAll(Promise14BoundTest.class);
    }

    private static void withoutStops() {
        due("promise 14: a new object", new RoundSearch().bound(), 0);
        due("promise 14: a round of no stops", Scene.EMPTY_ROUND.make().bound(), 0);
    }

    private static void oneStop() {
        RoundSearch x = new RoundSearch();
        x.stop(7, 500000, 600000);
        due("promise 14: its time and two ways, no wait", x.bound(), 2007);
        x.way(0, 1, 5);
        due("promise 14: the way to it", x.bound(), 1012);
        x.way(1, 0, 6);
        due("promise 14: the way home", x.bound(), 18);
        x.way(0, 1, 0);
        x.way(1, 0, 0);
        due("promise 14: ways of 0", x.bound(), 7);
    }

    private static void nothingAtAll() {
        RoundSearch x = withStops(1);
        x.way(0, 1, 0);
        x.way(1, 0, 0);
        due("promise 14: 0 with a stop", x.bound(), 0);
    }

    private static void leastWays() {
        RoundSearch x = new RoundSearch();
        x.stop(7, 0, EVER);
        x.stop(8, 0, EVER);
        x.way(0, 1, 30);
        x.way(2, 1, 20);
        x.way(1, 2, 5);
        x.way(2, 0, 600);
        due("promise 14: least ways", x.bound(), 15 + 20 + 5 + 600);
        x.way(0, 1, 19);
        due("promise 14: from the office", x.bound(), 15 + 19 + 5 + 600);
        x.way(1, 0, 599);
        due("promise 14: home from the other", x.bound(), 15 + 19 + 5 + 599);
    }

    private static void barredAndFreeAgain() {
        RoundSearch x = withStops(2);
        x.way(0, 1, 30);
        x.way(2, 1, 20);
        x.way(1, 2, 5);
        x.way(2, 0, 600);
        x.arc(2, 1, 0);
        due("promise 14: the least is barred", x.bound(), 30 + 5 + 600);
        x.arc(2, 0, 0);
        due("promise 14: the least home is barred", x.bound(), 30 + 5 + 1000);
        x.arc(2, 1, 1);
        x.arc(2, 0, 1);
        due("promise 14: free again", x.bound(), 20 + 5 + 600);
    }

    private static void noneToAStop() {
        RoundSearch x = withStops(2);
        x.arc(0, 1, 0);
        due("promise 14: one way is left", x.bound(), 3000);
        x.arc(2, 1, 0);
        due("promise 14: none to the first", x.bound(), -1);
        x.arc(0, 1, 1);
        due("promise 14: one again", x.bound(), 3000);
        x.arc(0, 2, 0);
        x.arc(1, 2, 0);
        due("promise 14: none to the last", x.bound(), -1);
    }

    private static void noneToTheOffice() {
        RoundSearch x = withStops(2);
        x.arc(1, 0, 0);
        due("promise 14: one way home is left", x.bound(), 3000);
        x.arc(2, 0, 0);
        due("promise 14: none home", x.bound(), -1);
        x.stop(0, 0, EVER);
        due("promise 14: home from a new one", x.bound(), 4000);
    }

    private static void theGreatest() {
        RoundSearch x = new RoundSearch();
        for (int k = 0; k < 20; k++) {
            x.stop(100000, 0, 0);
        }
        for (int a = 0; a <= 20; a++) {
            for (int b = 0; b <= 20; b++) {
                if (a != b) {
                    x.way(a, b, 100000);
                }
            }
        }
        due("promise 14: the greatest", x.bound(), 41 * 100000);
        x.way(7, 20, 0);
        due("promise 14: the last stop's least way", x.bound(), 40 * 100000);
        x.way(20, 0, 1);
        due("promise 14: from the last stop home", x.bound(), 39 * 100000 + 1);
    }

    private static void spansLoadsRoundsAndWhatIsFrozenDoNotMatter() {
        RoundSearch x = line();
        due("promise 14: the line", x.bound(), 10 + 10 + 10 + 15);
        x.solve(0);
        due("promise 14: with a round", x.bound(), 45);
        x.freeze(3);
        x.load(1, 1000);
        x.limit(0);
        due("promise 14: frozen, above the limit", x.bound(), 45);
        x.solve(0);
        due("promise 14: the round is gone", x.bound(), 45);
    }

    private static void itChangesNothing() {
        for (Scene scene : Scene.values()) {
            refused("promise 14: looked at", scene, RoundSearch::bound, scene.make().bound());
        }
    }
}
