/** Each promise with ordinary inputs, the edges that the document names, and wrong inputs. */
public final class PromisesTest {
    private static final Checks c = new Checks();
    private static final int UNKNOWN = RoundSearch.UNKNOWN;
    private static final int OUTSIDE = RoundSearch.OUTSIDE;
    private static final int STATE = RoundSearch.STATE;
    private static final int ROOM = RoundSearch.ROOM;
    private static final long EVER = 1000000L;

    public static void main(String[] args) {
        newObject();
        stop();
        stopEndsTheRoundButNotWhatIsFrozen();
        way();
        wayThatIsNone();
        load();
        limit();
        solveRefused();
        solveWaits();
        solveTies();
        solveTiesThroughWaiting();
        solveBesideTheBest();
        solveElevenAndTwelve();
        solveWithAllFrozen();
        solveWithBadFrozen();
        solveInserts();
        solveCountsSteps();
        at();
        exact();
        exactAndWhatEndsIt();
        exactAndRefusals();
        late();
        freeze();
        add();
        arc();
        exchange();
        bound();
        c.end();
    }

    private static RoundSearch withStops(int n) {
        RoundSearch x = new RoundSearch();
        for (int k = 0; k < n; k++) {
            x.stop(0, 0, EVER);
        }
        return x;
    }

    /** Three stops on a line 1, 2, 3: each way takes ten a stop that it passes, to the office five more. */
    private static RoundSearch line() {
        RoundSearch x = withStops(3);
        for (int a = 1; a <= 3; a++) {
            x.way(0, a, 10 * a);
            x.way(a, 0, 10 * a + 5);
            for (int b = 1; b <= 3; b++) {
                x.way(a, b, 10L * Math.abs(a - b));
            }
        }
        return x;
    }

    private static void newObject() {
        RoundSearch x = new RoundSearch();
        c.due("new: bound()", x.bound(), 0);
        c.fails("new: exact()", x.exact());
        c.due("new: late(0)", x.late(0), 0);
        c.due("new: at(0)", Checks.atOrThrown(x, 0), Checks.THROWN);
        c.due("new: freeze(0)", x.freeze(0), STATE);
        c.due("new: exchange(0, 1)", x.exchange(0, 1), STATE);
        c.due("new: add(1)", x.add(1), UNKNOWN);
        c.due("new: load(1, 0)", x.load(1, 0), UNKNOWN);
        c.due("new: arc(0, 1, 0)", x.arc(0, 1, 0), UNKNOWN);
        c.due("new: solve(0)", x.solve(0), 0);
        c.round("new: solved", x);
        c.holds("new: solved, exact()", x.exact());
        c.due("new: solved, freeze(0)", x.freeze(0), 0);
        c.due("new: solved, freeze(1)", x.freeze(1), UNKNOWN);
        c.due("the constants", UNKNOWN * 1000000L + OUTSIDE * 10000L + STATE * 100L + ROOM, -11121314L);
    }

    private static void stop() {
        RoundSearch x = new RoundSearch();
        c.due("stop: time -1", x.stop(-1, 0, 5), OUTSIDE);
        c.due("stop: time 100001", x.stop(100001, 0, 5), OUTSIDE);
        c.due("stop: from -1", x.stop(0, -1, 5), OUTSIDE);
        c.due("stop: from above until", x.stop(0, 6, 5), OUTSIDE);
        c.due("stop: until 1000001", x.stop(0, 0, 1000001), OUTSIDE);
        c.due("stop: both below", x.stop(0, -2, -1), OUTSIDE);
        c.due("stop: far numbers", x.stop(Long.MAX_VALUE, Long.MIN_VALUE, Long.MAX_VALUE), OUTSIDE);
        c.due("stop: the greatest", x.stop(100000, 1000000, 1000000), 1);
        c.due("stop: the least", x.stop(0, 0, 0), 2);
        for (int k = 3; k <= 20; k++) {
            c.due("stop: the next", x.stop(k, k, k), k);
        }
        x.solve(0);
        c.due("stop: no room", x.stop(0, 0, 5), ROOM);
        c.due("stop: no room, but OUTSIDE is first", x.stop(0, 6, 5), OUTSIDE);
        c.due("stop: a refused one leaves the round", x.at(19) > 0 ? 1 : 0, 1);
    }

    private static void stopEndsTheRoundButNotWhatIsFrozen() {
        RoundSearch x = withStops(3);
        c.due("stop/frozen: solve", x.solve(0), 4000);
        c.round("stop/frozen: first", x, 3, 2, 1);
        x.freeze(2);
        c.due("stop/frozen: refused", x.stop(0, 2, 1), OUTSIDE);
        c.round("stop/frozen: refused changes nothing", x, 3, 2, 1);
        c.due("stop/frozen: stop", x.stop(0, 0, EVER), 4);
        c.round("stop/frozen: no round", x);
        c.due("stop/frozen: late", x.late(0), 0);
        c.due("stop/frozen: add", x.add(1), STATE);
        c.due("stop/frozen: freeze", x.freeze(0), STATE);
        x.solve(0);
        c.round("stop/frozen: solved anew", x, 3, 2, 4, 1);
        c.due("stop/frozen: exchange a frozen one", x.exchange(1, 3), STATE);
        c.due("stop/frozen: exchange free ones", x.exchange(2, 3), 0);
    }

    private static void way() {
        RoundSearch x = withStops(1);
        c.due("way: untold", x.solve(0), 2000);
        x.way(0, 1, 0);
        c.due("way: 0", x.solve(0), 1000);
        x.way(1, 0, 100000);
        c.due("way: 100000, one direction alone", x.solve(0), 100000);
        x.way(1, 0, 7);
        c.due("way: told again", x.solve(0), 7);
        x.way(0, 1, 3);
        c.due("way: the round stays", x.at(0), 1);
    }

    private static void wayThatIsNone() {
        RoundSearch x = withStops(2);
        x.solve(0);
        x.way(0, 3, 1);
        x.way(3, 0, 1);
        x.way(-1, 0, 1);
        x.way(0, -1, 1);
        x.way(1, 1, 1);
        x.way(0, 0, 1);
        x.way(0, 1, -1);
        x.way(0, 1, 100001);
        x.way(Integer.MAX_VALUE, Integer.MIN_VALUE, Long.MAX_VALUE);
        c.holds("way: nothing comes of it, exact()", x.exact());
        c.due("way: nothing comes of it", x.solve(0), 3000);
        x.stop(0, 0, EVER);
        c.due("way: nor when the stop comes later", x.solve(0), 4000);
        c.due("way: nor for the bound", x.bound(), 4000);
    }

    private static void load() {
        RoundSearch x = withStops(2);
        c.due("load: office", x.load(0, 1), UNKNOWN);
        c.due("load: below", x.load(-1, 1), UNKNOWN);
        c.due("load: above", x.load(3, 1), UNKNOWN);
        c.due("load: UNKNOWN is first", x.load(3, -1), UNKNOWN);
        c.due("load: -1", x.load(1, -1), OUTSIDE);
        c.due("load: 1001", x.load(1, 1001), OUTSIDE);
        c.due("load: 1000", x.load(1, 1000), 1000);
        c.due("load: both", x.load(2, 1000), 2000);
        c.due("load: anew, not more", x.load(1, 3), 1003);
        c.due("load: 0", x.load(2, 0), 3);
        x.solve(0);
        x.load(1, 5);
        c.holds("load: the round stays exact", x.exact());
        c.round("load: the round stays", x, 2, 1);
    }

    private static void limit() {
        RoundSearch x = withStops(1);
        x.load(1, 5);
        c.due("limit: none at first", x.solve(0), 2000);
        c.due("limit: -2", x.limit(-2), OUTSIDE);
        c.due("limit: far below", x.limit(Integer.MIN_VALUE), OUTSIDE);
        c.due("limit: 4", x.limit(4), 1);
        c.due("limit: the round stays", x.at(0), 1);
        c.due("limit: more than it", x.solve(0), STATE);
        c.due("limit: refused changes nothing", x.limit(-5), OUTSIDE);
        c.due("limit: still more than it", x.solve(0), STATE);
        c.due("limit: 5", x.limit(5), 1);
        c.due("limit: just as much", x.solve(0), 2000);
        c.due("limit: 0", x.limit(0), 1);
        c.due("limit: 0 is a limit", x.solve(0), STATE);
        c.due("limit: none", x.limit(-1), 0);
        c.due("limit: none again", x.solve(0), 2000);
        c.due("limit: the greatest", x.limit(Integer.MAX_VALUE), 1);
        c.due("limit: far from it", x.solve(0), 2000);
    }

    private static void solveRefused() {
        RoundSearch x = withStops(3);
        x.solve(0);
        x.freeze(1);
        c.due("solve: -1", x.solve(-1), OUTSIDE);
        c.due("solve: 100001", x.solve(100001), OUTSIDE);
        c.due("solve: far", x.solve(Long.MIN_VALUE), OUTSIDE);
        c.round("solve: OUTSIDE leaves the round", x, 3, 2, 1);
        x.load(1, 2);
        x.limit(1);
        c.due("solve: OUTSIDE before STATE", x.solve(-1), OUTSIDE);
        c.round("solve: OUTSIDE leaves the round, too", x, 3, 2, 1);
        c.due("solve: STATE", x.solve(0), STATE);
        c.round("solve: STATE, no round", x);
        c.due("solve: STATE, freeze", x.freeze(0), STATE);
        c.holds("solve: STATE, the latest round was exact all the same", x.exact());
        x.limit(-1);
        x.way(0, 1, 1);
        c.due("solve: 100000", x.solve(100000), 4000);
        c.round("solve: what was frozen stays", x, 3, 2, 1);
    }

    private static void solveWaits() {
        RoundSearch x = new RoundSearch();
        x.stop(10, 5000, 6000);
        c.due("solve: waits, then is done", x.solve(0), 5000 + 10 + 1000);
        c.due("solve: nobody late who waits", x.late(0), 0);
        RoundSearch y = new RoundSearch();
        y.stop(10, 1000, 1000);
        c.due("solve: just in time", y.solve(0), 2010);
        c.holds("solve: just in time is good", y.exact());
        RoundSearch z = new RoundSearch();
        z.stop(10, 0, 999);
        c.due("solve: one too late", z.solve(0), 2010);
        c.fails("solve: late is not good", z.exact());
        c.due("solve: late", z.late(0), 1);
    }

    private static void solveTies() {
        RoundSearch x = withStops(4);
        c.due("ties: all alike", x.solve(0), 5000);
        c.round("ties: least stops last", x, 4, 3, 2, 1);
        RoundSearch y = line();
        c.due("ties: the line", y.solve(0), 65);
        c.round("ties: the line", y, 3, 2, 1);
    }

    /** Behind the long wait at 1 both rows of 2 and 3 are alike, though 2, 3 is done sooner. */
    private static void solveTiesThroughWaiting() {
        RoundSearch x = new RoundSearch();
        x.stop(0, 9000, EVER);
        x.stop(0, 0, EVER);
        x.stop(0, 0, EVER);
        x.way(1, 0, 0);
        x.way(0, 2, 10);
        x.way(2, 3, 10);
        x.way(3, 1, 10);
        c.due("ties: wait", x.solve(0), 9000);
        c.round("ties: the least stop before the wait", x, 3, 2, 1);
    }

    /** The good round is home later than one that is late at a stop. */
    private static void solveBesideTheBest() {
        RoundSearch x = withStops(1);
        x.stop(0, 0, 1000);
        x.way(1, 2, 1);
        x.way(2, 0, 1);
        c.due("good: sooner would be late", x.solve(0), 3000);
        c.round("good: in time", x, 2, 1);
        RoundSearch y = withStops(2);
        y.way(1, 2, 1);
        y.arc(1, 2, 0);
        c.due("good: sooner is barred", y.solve(0), 3000);
        c.round("good: not barred", y, 2, 1);
        c.holds("good: exactly", y.exact());
    }

    private static void solveElevenAndTwelve() {
        RoundSearch x = withStops(11);
        x.solve(0);
        c.holds("eleven are solved exactly", x.exact());
        x.stop(0, 0, EVER);
        c.due("twelve: solve", x.solve(0), 13000);
        c.fails("twelve are not", x.exact());
        c.round("twelve are inserted", x, 12, 11, 10, 9, 8, 7, 6, 5, 4, 3, 2, 1);
        x.freeze(1);
        x.solve(0);
        c.holds("eleven beside a frozen one are", x.exact());
        c.round("eleven beside a frozen one", x, 12, 11, 10, 9, 8, 7, 6, 5, 4, 3, 2, 1);
        x.freeze(0);
        x.solve(0);
        c.fails("twelve again are not", x.exact());
    }

    private static void solveWithAllFrozen() {
        RoundSearch x = line();
        x.solve(0);
        x.freeze(3);
        x.way(1, 0, 500);
        c.due("all frozen: solve", x.solve(100), 550);
        c.round("all frozen: the row stays", x, 3, 2, 1);
        c.holds("all frozen: exactly", x.exact());
        x.arc(1, 0, 0);
        c.due("all frozen, barred home", x.solve(100), 550);
        c.fails("all frozen, barred home: not exactly", x.exact());
        x.freeze(2);
        c.due("barred home, one free", x.solve(100), 550);
        c.fails("barred home, one free: not exactly", x.exact());
    }

    private static void solveWithBadFrozen() {
        RoundSearch x = line();
        x.solve(0);
        x.freeze(2);
        x.arc(3, 2, 0);
        x.solve(10);
        c.fails("a frozen way that is barred", x.exact());
        c.round("a frozen way that is barred: the row", x, 3, 2, 1);
        x.freeze(1);
        c.due("no longer frozen", x.solve(10), 30 + 20 + 10 + 25);
        c.holds("no longer frozen: exactly", x.exact());
        c.round("no longer frozen: the row", x, 3, 1, 2);
    }

    /** Stop 4 is late wherever it is, so there is no good round. */
    private static void solveInserts() {
        RoundSearch x = line();
        x.stop(0, 0, 0);
        x.way(0, 4, 1000);
        c.due("inserting: home is no cost", x.solve(0), 1000 + 1000 + 20 + 15);
        c.round("inserting: cheapest, first place", x, 4, 3, 2, 1);
        c.due("inserting: late", x.late(0), 4);
        c.fails("inserting: not exactly", x.exact());
    }

    /** From 3, 2, 1 the second cost is less; then it begins anew, and the third one from there is less. */
    private static void solveCountsSteps() {
        for (long steps = 0; steps <= 9; steps++) {
            RoundSearch x = improvedTwice();
            c.due("steps " + steps, x.solve(steps), steps < 2 ? 4000 : steps < 5 ? 3500 : 2500);
            c.round("steps " + steps, x,
                steps < 2 ? new int[] {3, 2, 1} : steps < 5 ? new int[] {1, 2, 3} : new int[] {1, 3, 2});
        }
    }

    /** Barred home from everywhere, so that it is never solved exactly. */
    private static RoundSearch improvedTwice() {
        RoundSearch x = withStops(3);
        for (int a = 1; a <= 3; a++) {
            x.arc(a, 0, 0);
        }
        x.way(0, 1, 0);
        x.way(1, 2, 3000);
        x.way(2, 0, 0);
        x.way(2, 3, 0);
        x.way(3, 0, 500);
        x.way(1, 3, 1500);
        x.way(3, 1, 2000);
        return x;
    }

    private static void at() {
        RoundSearch x = line();
        c.due("at: no round", Checks.atOrThrown(x, 0), Checks.THROWN);
        x.solve(0);
        c.round("at: the round", x, 3, 2, 1);
        c.due("at: -1", Checks.atOrThrown(x, -1), Checks.THROWN);
        c.due("at: far below", Checks.atOrThrown(x, Integer.MIN_VALUE), Checks.THROWN);
        c.due("at: far above", Checks.atOrThrown(x, Integer.MAX_VALUE), Checks.THROWN);
        c.holds("at: what throws changes nothing", x.exact());
        c.round("at: the round still", x, 3, 2, 1);
    }

    private static void exact() {
        RoundSearch x = line();
        c.fails("exact: no round yet", x.exact());
        x.solve(0);
        c.holds("exact: solved", x.exact());
        x.freeze(1);
        x.limit(3);
        x.load(1, 1);
        x.late(0);
        x.bound();
        x.at(0);
        c.due("exact: exchange that does nothing", x.exchange(1, 2), 0);
        c.holds("exact: all these do not matter", x.exact());
    }

    private static void exactAndWhatEndsIt() {
        RoundSearch x = line();
        x.solve(0);
        x.stop(0, 0, EVER);
        c.fails("exact: a stop came", x.exact());
        x.solve(0);
        x.way(0, 1, 10);
        c.fails("exact: a way was told, the same", x.exact());
        x.solve(0);
        x.arc(0, 1, 1);
        c.fails("exact: an arc, the same", x.exact());
        x.solve(0);
        x.add(1);
        c.fails("exact: an add", x.exact());
        x.solve(0);
        c.holds("exact: solved again", x.exact());

        RoundSearch y = line();
        y.solve(0);
        y.freeze(1);
        y.way(0, 3, 900);
        y.solve(0);
        y.freeze(0);
        c.holds("exact: solved behind a frozen stop", y.exact());
        c.due("exact: exchanged when it is no longer frozen", y.exchange(0, 1), 1);
        c.fails("exact: exchanged", y.exact());
    }

    private static void exactAndRefusals() {
        RoundSearch x = line();
        x.solve(0);
        x.stop(-1, 0, 0);
        x.way(0, 9, 1);
        x.arc(0, 0, 0);
        x.arc(0, 9, 0);
        x.arc(0, 1, 2);
        x.add(0);
        x.add(9);
        x.exchange(0, 0);
        x.exchange(0, 9);
        x.freeze(9);
        x.solve(-1);
        c.holds("exact: refusals do not matter", x.exact());
        x.freeze(1);
        c.due("exact: add of a frozen one", x.add(3), STATE);
        c.holds("exact: nor does this one", x.exact());
    }

    private static void late() {
        RoundSearch x = new RoundSearch();
        x.stop(0, 0, 500);
        x.stop(0, 0, EVER);
        x.stop(0, 0, 400);
        c.due("late: no round", x.late(0), 0);
        x.solve(0);
        c.round("late: the round", x, 3, 2, 1);
        c.due("late: first by place", x.late(0), 3);
        c.due("late: second", x.late(1), 1);
        c.due("late: none such", x.late(2), 0);
        c.due("late: -1", x.late(-1), 0);
        c.due("late: far", x.late(Integer.MAX_VALUE), 0);
        x.way(0, 3, 400);
        c.due("late: no longer, by a way told since", x.late(0), 1);
        x.way(3, 2, 50);
        x.way(2, 1, 50);
        c.due("late: none", x.late(0), 0);
        x.way(2, 1, 51);
        c.due("late: by one", x.late(0), 1);
        x.stop(0, 0, EVER);
        c.due("late: the round is gone", x.late(0), 0);
    }

    private static void freeze() {
        RoundSearch x = line();
        c.due("freeze: no round", x.freeze(0), STATE);
        c.due("freeze: no round, far", x.freeze(Integer.MAX_VALUE), STATE);
        c.due("freeze: no round, -1", x.freeze(-1), UNKNOWN);
        x.solve(0);
        c.due("freeze: -1", x.freeze(-1), UNKNOWN);
        c.due("freeze: above", x.freeze(4), UNKNOWN);
        c.due("freeze: all", x.freeze(3), 3);
        c.due("freeze: all are", x.add(1), STATE);
        c.due("freeze: refused", x.freeze(4), UNKNOWN);
        c.due("freeze: refused changes nothing", x.add(1), STATE);
        c.due("freeze: fewer", x.freeze(1), 1);
        c.due("freeze: others are not", x.exchange(1, 2), 0);
        c.due("freeze: the first is", x.exchange(0, 2), STATE);
        x.way(0, 3, 900);
        c.due("freeze: solve", x.solve(0), 935);
        c.round("freeze: begins with it", x, 3, 2, 1);
        c.due("freeze: none", x.freeze(0), 0);
        c.due("freeze: solve without", x.solve(0), 65);
        c.round("freeze: begins with another", x, 2, 3, 1);
    }

    private static void add() {
        RoundSearch x = line();
        c.due("add: no round", x.add(1), STATE);
        c.due("add: no such stop, no round", x.add(4), UNKNOWN);
        x.solve(0);
        c.due("add: office", x.add(0), UNKNOWN);
        c.due("add: -1", x.add(-1), UNKNOWN);
        c.due("add: 4", x.add(4), UNKNOWN);
        c.due("add: the first of alike places", x.add(1), 0);
        c.round("add: moved", x, 1, 3, 2);
        c.due("add: to the middle", x.add(2), 1);
        c.round("add: moved again", x, 1, 2, 3);
        x.freeze(1);
        c.due("add: frozen", x.add(1), STATE);
        c.due("add: behind the frozen", x.add(3), 1);
        c.round("add: behind the frozen", x, 1, 3, 2);
        x.way(3, 0, 0);
        c.due("add: to the end", x.add(3), 2);
        c.round("add: at the end", x, 1, 2, 3);
        c.due("add: the last free one", x.add(2), 1);
    }

    private static void arc() {
        RoundSearch x = line();
        c.due("arc: no such stop", x.arc(0, 4, 0), UNKNOWN);
        c.due("arc: below", x.arc(-1, 1, 0), UNKNOWN);
        c.due("arc: UNKNOWN is first", x.arc(4, 4, 5), UNKNOWN);
        c.due("arc: kind 2", x.arc(0, 1, 2), OUTSIDE);
        c.due("arc: kind -1", x.arc(0, 1, -1), OUTSIDE);
        c.due("arc: both the same", x.arc(2, 2, 0), OUTSIDE);
        c.due("arc: the office twice", x.arc(0, 0, 1), OUTSIDE);
        c.due("arc: free already", x.arc(0, 1, 1), 0);
        c.due("arc: barred", x.arc(0, 1, 0), 1);
        c.due("arc: barred again", x.arc(0, 1, 0), 1);
        c.due("arc: the other direction", x.arc(1, 0, 0), 2);
        c.due("arc: between stops", x.arc(2, 3, 0), 3);
        x.way(2, 3, 1);
        c.due("arc: a way told is barred still", x.arc(2, 3, 0), 3);
        x.solve(0);
        c.due("arc: free", x.arc(0, 1, 1), 2);
        c.due("arc: the round stays", Checks.atOrThrown(x, 0), 3);
        c.due("arc: all free", x.arc(1, 0, 1) + x.arc(2, 3, 1), 1);
    }

    private static void exchange() {
        RoundSearch x = line();
        c.due("exchange: no round", x.exchange(0, 1), STATE);
        c.due("exchange: no round, the same", x.exchange(7, 7), STATE);
        c.due("exchange: no round, below", x.exchange(-1, 0), UNKNOWN);
        c.due("exchange: no round, below behind", x.exchange(0, -1), UNKNOWN);
        x.solve(0);
        c.due("exchange: no such place", x.exchange(0, 3), UNKNOWN);
        c.due("exchange: no such place before", x.exchange(3, 0), UNKNOWN);
        c.due("exchange: UNKNOWN is first", x.exchange(3, 3), UNKNOWN);
        c.due("exchange: -1", x.exchange(-1, 1), UNKNOWN);
        c.due("exchange: the same", x.exchange(1, 1), STATE);
        c.due("exchange: alike is not less", x.exchange(0, 2), 0);
        c.round("exchange: nothing done", x, 3, 2, 1);
        x.way(1, 2, 9);
        c.due("exchange: less, the greater place first", x.exchange(2, 0), 1);
        c.round("exchange: done", x, 1, 2, 3);
        c.due("exchange: back is not less", x.exchange(0, 2), 0);
        x.arc(1, 2, 0);
        x.freeze(1);
        c.due("exchange: frozen", x.exchange(0, 2), STATE);
        c.due("exchange: frozen behind", x.exchange(2, 0), STATE);
        c.due("exchange: less faults, later home", x.exchange(1, 2), 1);
        c.round("exchange: faults", x, 1, 3, 2);
        x.arc(1, 2, 1);
        x.arc(2, 0, 0);
        c.due("exchange: barred home", x.exchange(1, 2), 1);
        c.round("exchange: barred home", x, 1, 2, 3);
    }

    private static void bound() {
        RoundSearch x = new RoundSearch();
        c.due("bound: without stops", x.bound(), 0);
        x.stop(7, 500000, EVER);
        c.due("bound: one stop, without its span", x.bound(), 2007);
        x.stop(8, 0, EVER);
        x.way(0, 1, 30);
        x.way(2, 1, 20);
        x.way(1, 2, 5);
        x.way(2, 0, 600);
        c.due("bound: least ways", x.bound(), 15 + 20 + 5 + 600);
        x.arc(2, 1, 0);
        c.due("bound: barred ways are not", x.bound(), 15 + 30 + 5 + 600);
        x.arc(2, 0, 0);
        c.due("bound: nor home", x.bound(), 15 + 30 + 5 + 1000);
        x.arc(1, 0, 0);
        c.due("bound: no way home", x.bound(), -1);
        x.arc(1, 0, 1);
        x.arc(0, 1, 0);
        c.due("bound: no way to a stop", x.bound(), -1);
        x.arc(2, 1, 1);
        c.due("bound: a way again", x.bound(), 15 + 20 + 5 + 1000);
    }
}
