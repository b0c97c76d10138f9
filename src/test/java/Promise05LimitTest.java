/** Promise 5: limit. */
public final class Promise05LimitTest extends Checks {
    public static void main(String[] args) {
        runAll(Promise05LimitTest.class);
    }

    private static RoundSearch loaded(int n) {
        RoundSearch x = withStops(2);
        x.load(1, 2);
        x.load(2, n - 2);
        return x;
    }

    private static void limitBounds() {
        RoundSearch x = new RoundSearch();
        due("promise 5: none already", x.limit(-1), 0);
        due("promise 5: 0", x.limit(0), 1);
        due("promise 5: 1", x.limit(1), 1);
        due("promise 5: the greatest", x.limit(Integer.MAX_VALUE), 1);
        due("promise 5: -1", x.limit(-1), 0);
        refusedEverywhere("promise 5: -2", y -> y.limit(-2), OUTSIDE);
        refusedEverywhere("promise 5: the least", y -> y.limit(Integer.MIN_VALUE), OUTSIDE);
    }

    private static void loadsAtTheLimitAndAbove() {
        RoundSearch x = loaded(7);
        x.limit(8);
        due("promise 5: one below the limit", x.solve(0), 3000);
        x.limit(7);
        due("promise 5: just at the limit", x.solve(0), 3000);
        x.limit(6);
        due("promise 5: one above the limit", x.solve(0), STATE);
        x.load(1, 1);
        due("promise 5: just at it with a load less", x.solve(0), 3000);
    }

    private static void zeroIsALimit() {
        RoundSearch x = withStops(1);
        x.limit(0);
        due("promise 5: no loads, limit 0", x.solve(0), 2000);
        x.load(1, 1);
        due("promise 5: load 1, limit 0", x.solve(0), STATE);
        RoundSearch y = new RoundSearch();
        y.limit(0);
        due("promise 5: no stops, limit 0", y.solve(0), 0);
    }

    private static void noneIsNone() {
        RoundSearch x = withStops(20);
        for (int k = 1; k <= 20; k++) {
            x.load(k, 1000);
        }
        due("promise 5: none at first", x.solve(0), 21000);
        x.limit(19999);
        due("promise 5: 19999", x.solve(0), STATE);
        x.limit(20000);
        due("promise 5: 20000", x.solve(0), 21000);
        x.limit(0);
        x.limit(-1);
        due("promise 5: none again", x.solve(0), 21000);
        x.limit(Integer.MAX_VALUE);
        due("promise 5: the greatest", x.solve(0), 21000);
    }

    private static void refusedKeepsTheLimit() {
        RoundSearch x = loaded(7);
        x.limit(6);
        x.limit(-2);
        due("promise 5: the limit stays", x.solve(0), STATE);
        x.limit(-1);
        x.limit(Integer.MIN_VALUE);
        due("promise 5: none stays none", x.solve(0), 3000);
    }

    private static void theRoundStays() {
        RoundSearch x = solvedLine();
        x.load(1, 5);
        due("promise 5: below the loads", x.limit(4), 1);
        round("promise 5: the round stays", x, 3, 2, 1);
        holds("promise 5: it stays exact", x.exact());
        due("promise 5: freeze", x.freeze(1), 1);
    }
}
