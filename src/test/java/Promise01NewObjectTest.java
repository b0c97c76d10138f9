/** Promise 1: A new object: no stops, no round; and what the terms say is none, or nothing, at first. */
public final class Promise01NewObjectTest extends Checks {
    public static void main(String[] args) {
        runAll(Promise01NewObjectTest.class);
    }

    private static void noStops() {
        RoundSearch x = new RoundSearch();
        due("promise 1: bound()", x.bound(), 0);
        due("promise 1: load(1, 0)", x.load(1, 0), UNKNOWN);
        due("promise 1: add(1)", x.add(1), UNKNOWN);
        due("promise 1: arc(0, 1, 0)", x.arc(0, 1, 0), UNKNOWN);
        due("promise 1: arc(1, 0, 0)", x.arc(1, 0, 0), UNKNOWN);
        due("promise 1: the first stop", x.stop(0, 0, 0), 1);
    }

    private static void noRound() {
        RoundSearch x = new RoundSearch();
        due("promise 1: at(0)", atOrThrown(x, 0), THROWN);
        fails("promise 1: exact()", x.exact());
        due("promise 1: late(0)", x.late(0), 0);
        due("promise 1: freeze(0)", x.freeze(0), STATE);
        due("promise 1: exchange(0, 1)", x.exchange(0, 1), STATE);
    }

    private static void roundOfNoStops() {
        RoundSearch x = new RoundSearch();
        due("promise 1: solve(0)", x.solve(0), 0);
        round("promise 1: no stops in it", x);
        holds("promise 1: it is exact", x.exact());
        due("promise 1: nobody late", x.late(0), 0);
        due("promise 1: freeze(0)", x.freeze(0), 0);
        due("promise 1: freeze(1)", x.freeze(1), UNKNOWN);
        due("promise 1: exchange(0, 0)", x.exchange(0, 0), UNKNOWN);
        due("promise 1: solve(100000)", x.solve(100000), 0);
    }

    private static void noLimitNoLoadsNothingBarredNothingFrozen() {
        RoundSearch x = withStops(2);
        due("promise 1: loads are 0", x.load(1, 0), 0);
        x.load(1, 1000);
        x.load(2, 1000);
        due("promise 1: no limit, untold ways", x.solve(0), 3000);
        due("promise 1: nothing is barred", x.arc(0, 1, 1), 0);
        due("promise 1: nothing is frozen", x.exchange(0, 1), 0);
    }

    private static void objectsHaveNothingInCommon() {
        RoundSearch x = solvedLine();
        x.freeze(1);
        RoundSearch y = new RoundSearch();
        due("promise 1: no stops beside another one", y.bound(), 0);
        due("promise 1: no round beside another one", atOrThrown(y, 0), THROWN);
        for (int k = 1; k <= 3; k++) {
            due("promise 1: numbers beside another one", y.stop(0, 0, EVER), k);
        }
        y.way(0, 1, 0);
        due("promise 1: untold ways beside another one", y.solve(0), 3000);
        round("promise 1: nothing frozen beside another one", y, 1, 3, 2);
        round("promise 1: the other one's round", x, 3, 2, 1);
        holds("promise 1: the other one is exact", x.exact());
        due("promise 1: the other one's ways", x.solve(0), 65);
        due("promise 1: what the other one has frozen", x.add(3), STATE);
    }

    private static void constants() {
        due("UNKNOWN", RoundSearch.UNKNOWN, -11);
        due("OUTSIDE", RoundSearch.OUTSIDE, -12);
        due("STATE", RoundSearch.STATE, -13);
        due("ROOM", RoundSearch.ROOM, -14);
    }
}
