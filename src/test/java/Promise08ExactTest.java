import java.util.function.Consumer;

/** Promise 8: exact. */
public final class Promise08ExactTest extends Checks {
    public static void main(String[] args) {
        runAll(Promise08ExactTest.class);
    }

    /** Behind the call the round that was solved exactly must not count as such. */
    private static void ends(String what, Consumer<RoundSearch> call) {
        RoundSearch x = solvedLine();
        holds("promise 8: before " + what, x.exact());
        call.accept(x);
        fails("promise 8: " + what, x.exact());
    }

    private static void stays(String what, Consumer<RoundSearch> call) {
        RoundSearch x = solvedLine();
        call.accept(x);
        holds("promise 8: " + what, x.exact());
    }

    private static void noRoundYet() {
        fails("promise 8: a new object", new RoundSearch().exact());
        fails("promise 8: stops, not solved", line().exact());
    }

    private static void solvedExactlyOrNot() {
        holds("promise 8: no stops", Scene.EMPTY_ROUND.make().exact());
        holds("promise 8: one stop", Scene.ONE_STOP.make().exact());
        holds("promise 8: a good round", solvedLine().exact());
        fails("promise 8: no good round", Scene.LATE.make().exact());
        fails("promise 8: more than eleven", Scene.FULL.make().exact());
    }

    private static void theLatestRoundCounts() {
        RoundSearch x = solvedLine();
        x.arc(1, 0, 0);
        x.arc(2, 0, 0);
        x.arc(3, 0, 0);
        x.solve(0);
        fails("promise 8: first exactly, then not", x.exact());
        x.arc(1, 0, 1);
        x.solve(0);
        holds("promise 8: first not, then exactly", x.exact());
    }

    private static void aStopEndsIt() {
        ends("a stop came", x -> x.stop(0, 0, EVER));
        RoundSearch x = Scene.EMPTY_ROUND.make();
        x.stop(0, 0, EVER);
        fails("promise 8: the first stop came", x.exact());
    }

    private static void aWayEndsIt() {
        ends("a way of the round was told", x -> x.way(0, 3, 31));
        ends("a way was told that is not in the round", x -> x.way(0, 1, 11));
        ends("a way was told as it was", x -> x.way(0, 3, 30));
        ends("a way was told of 0", x -> x.way(0, 3, 0));
        ends("a way was told of 100000", x -> x.way(0, 3, 100000));
    }

    private static void anArcEndsIt() {
        ends("a way of the round was barred", x -> x.arc(0, 3, 0));
        ends("another way was barred", x -> x.arc(0, 1, 0));
        ends("a way that is free was made free", x -> x.arc(0, 3, 1));
        RoundSearch x = line();
        x.arc(0, 3, 0);
        x.solve(0);
        x.arc(0, 3, 0);
        fails("promise 8: a barred way was barred", x.exact());
    }

    private static void anAddEndsIt() {
        ends("an add that moves", x -> due("promise 8: moves", x.add(1), 0));
        ends("an add that leaves it where it was", x -> due("promise 8: moves not", x.add(3), 0));
        RoundSearch x = Scene.ONE_STOP.make();
        x.add(1);
        fails("promise 8: an add of the only stop", x.exact());
    }

    private static void anExchangeEndsItIfDone() {
        stays("an exchange that answers 0", x -> due("promise 8: exchange", x.exchange(0, 1), 0));
        RoundSearch x = solvedLine();
        x.freeze(1);
        x.way(0, 3, 900);
        x.solve(0);
        x.freeze(0);
        holds("promise 8: solved behind a frozen stop", x.exact());
        due("promise 8: an exchange that answers 1", x.exchange(0, 1), 1);
        fails("promise 8: exchanged", x.exact());
        due("promise 8: the next answers 0", x.exchange(0, 1), 0);
        fails("promise 8: still exchanged", x.exact());
    }

    private static void otherCallsDoNotMatter() {
        stays("load", x -> x.load(1, 5));
        stays("limit", x -> x.limit(0));
        stays("at", x -> x.at(0));
        stays("late", x -> x.late(0));
        stays("freeze none", x -> x.freeze(0));
        stays("freeze some", x -> x.freeze(2));
        stays("freeze all", x -> x.freeze(3));
        stays("bound", x -> x.bound());
        stays("exact", x -> x.exact());
    }

    private static void refusalsDoNotMatter() {
        stays("stop, OUTSIDE", x -> x.stop(-1, 0, 0));
        stays("way, no such stop", x -> x.way(0, 4, 1));
        stays("way, the same", x -> x.way(1, 1, 1));
        stays("way, 100001", x -> x.way(0, 1, 100001));
        stays("load, UNKNOWN", x -> x.load(4, 1));
        stays("limit, OUTSIDE", x -> x.limit(-2));
        stays("solve, OUTSIDE", x -> x.solve(-1));
        stays("at, thrown", x -> atOrThrown(x, 3));
        stays("freeze, UNKNOWN", x -> x.freeze(4));
        stays("add, UNKNOWN", x -> x.add(4));
        stays("add, the office", x -> x.add(0));
        stays("add, frozen", x -> due("promise 8: freeze", x.freeze(1) + x.add(3), 1 + STATE));
        stays("arc, UNKNOWN", x -> x.arc(0, 4, 0));
        stays("arc, kind", x -> x.arc(0, 1, 2));
        stays("arc, the same", x -> x.arc(1, 1, 0));
        stays("exchange, UNKNOWN", x -> x.exchange(0, 3));
        stays("exchange, the same", x -> x.exchange(1, 1));
        RoundSearch full = Scene.FULL_AND_EXACT.make();
        due("promise 8: stop, ROOM", full.stop(0, 0, EVER), ROOM);
        holds("promise 8: stop, ROOM", full.exact());
    }

    /** The words name no such end: the latest round was solved exactly, and nothing of what they list came since. */
    private static void stateIsNotAmongWhatEndsIt() {
        stays("solve, STATE", x -> {
            x.load(1, 1);
            x.limit(0);
            due("promise 8: solve", x.solve(0), STATE);
        });
        RoundSearch x = Scene.LATE.make();
        x.limit(0);
        due("promise 8: solve", x.solve(0), STATE);
        fails("promise 8: nor does it begin so", x.exact());
    }
}
