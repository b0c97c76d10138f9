/** Section 'Terms': SOLVED (promise 6; what is exact also promise 8). */
public final class TermsSolvedTest extends Checks {
    public static void main(String[] args) {
        runAll(TermsSolvedTest.class);
    }

    private static void elevenOthersAndTwelve() {
        for (int n = 10; n <= 12; n++) {
            RoundSearch x = withStops(n);
            due("promise 6: home with " + n, x.solve(0), 1000 * (n + 1));
            due("promise 8: exact with " + n, x.exact() ? 1 : 0, n <= 11 ? 1 : 0);
        }
    }

    private static void elevenOthersBesideFrozenOnes() {
        RoundSearch x = withStops(20);
        x.solve(0);
        for (int frozen : new int[] {0, 1, 8, 9, 10, 19, 20, 8, 0}) {
            x.freeze(frozen);
            due("promise 6: home with frozen " + frozen, x.solve(0), 21000);
            due("promise 8: exact with frozen " + frozen, x.exact() ? 1 : 0, 20 - frozen <= 11 ? 1 : 0);
        }
    }

    private static void aStopMoreThanEleven() {
        RoundSearch x = withStops(11);
        x.solve(0);
        x.freeze(1);
        x.stop(0, 0, EVER);
        x.solve(0);
        holds("promise 8: eleven and a frozen one", x.exact());
        x.stop(0, 0, EVER);
        x.solve(0);
        fails("promise 8: twelve and a frozen one", x.exact());
    }

    /** From each the one five further is a second away, all round; every other way takes 1000. */
    private static void theBestOfAllRowsOfEleven() {
        RoundSearch x = withStops(11);
        for (int a = 0; a <= 11; a++) {
            x.way(a, (a + 5) % 12, 1);
        }
        due("promise 6: home", x.solve(0), 12);
        round("promise 6: by the short ways", x, 5, 10, 3, 8, 1, 6, 11, 4, 9, 2, 7);
        holds("promise 8: exact", x.exact());
    }

    private static void theBestOfAllRowsOfElevenBehindNineFrozen() {
        RoundSearch x = withStops(9);
        tellChain(x, 0, 1, 2, 3, 4, 5, 6, 7, 8, 9);
        x.solve(0);
        x.freeze(9);
        for (int k = 10; k <= 20; k++) {
            x.stop(0, 0, EVER);
        }
        tellChain(x, 9, 15, 20, 14, 19, 13, 18, 12, 17, 11, 16, 10, 0);
        due("promise 6: home", x.solve(0), 21);
        round("promise 6: by the short ways", x,
            1, 2, 3, 4, 5, 6, 7, 8, 9, 15, 20, 14, 19, 13, 18, 12, 17, 11, 16, 10);
        holds("promise 8: exact", x.exact());
    }

    private static void tellChain(RoundSearch x, int... points) {
        for (int k = 1; k < points.length; k++) {
            x.way(points[k - 1], points[k], 1);
        }
    }

    private static void theFrozenInTheirRow() {
        RoundSearch x = solvedLine();
        x.freeze(3);
        x.way(1, 0, 500);
        due("promise 6: all frozen", x.solve(100), 550);
        round("promise 6: all frozen", x, 3, 2, 1);
        holds("promise 8: all frozen, and good", x.exact());
        x.arc(1, 0, 0);
        due("promise 6: all frozen, barred home", x.solve(100), 550);
        round("promise 6: all frozen, barred home", x, 3, 2, 1);
        fails("promise 8: all frozen, barred home", x.exact());
    }

    private static void aFrozenWayThatIsBarred() {
        RoundSearch x = solvedLine();
        x.freeze(2);
        x.arc(3, 2, 0);
        due("promise 6: no good round", x.solve(10), 65);
        round("promise 6: no good round", x, 3, 2, 1);
        fails("promise 8: no good round", x.exact());
        x.freeze(1);
        due("promise 6: the second is free", x.solve(10), 30 + 20 + 10 + 25);
        round("promise 6: the second is free", x, 3, 1, 2);
        holds("promise 8: a good round", x.exact());
    }

    private static void aFrozenStopThatIsLate() {
        RoundSearch x = new RoundSearch();
        x.stop(0, 0, 1000);
        x.stop(0, 0, EVER);
        x.solve(0);
        round("promise 6: in time", x, 1, 2);
        x.freeze(1);
        x.way(0, 1, 1001);
        x.solve(0);
        fails("promise 8: late while frozen", x.exact());
        round("promise 6: it stays first", x, 1, 2);
        due("promise 9: late", x.late(0), 1);
    }

    private static void aFreeStopThatIsLateBehindTheFrozen() {
        RoundSearch x = new RoundSearch();
        x.stop(0, 0, EVER);
        x.stop(0, 0, EVER);
        x.solve(0);
        x.freeze(2);
        x.stop(0, 0, 2999);
        x.solve(0);
        fails("promise 8: reached at 3000", x.exact());
        round("promise 6: behind the frozen all the same", x, 2, 1, 3);
    }

    private static void theGoodRoundThoughAnotherIsSooner() {
        RoundSearch x = withStops(1);
        x.stop(0, 0, 1000);
        x.way(1, 2, 1);
        x.way(2, 0, 1);
        due("promise 6: sooner would be late", x.solve(0), 3000);
        round("promise 6: in time", x, 2, 1);
        RoundSearch y = withStops(2);
        y.way(1, 2, 1);
        y.arc(1, 2, 0);
        due("promise 6: sooner is barred", y.solve(0), 3000);
        round("promise 6: not barred", y, 2, 1);
    }

    private static void noGoodRoundByOneSecond() {
        RoundSearch x = new RoundSearch();
        x.stop(0, 0, 2000);
        x.stop(0, 0, 1000);
        x.solve(0);
        holds("promise 8: both just in time", x.exact());
        x.way(2, 1, 1001);
        x.solve(0);
        fails("promise 8: one second too late", x.exact());
    }

    private static void tiesFromTheLastBack() {
        RoundSearch x = withStops(4);
        x.solve(0);
        round("promise 6: all alike", x, 4, 3, 2, 1);
        RoundSearch y = solvedLine();
        round("promise 6: the line", y, 3, 2, 1);
    }

    private static void tiesDownToTheFrozen() {
        RoundSearch x = withStops(4);
        x.solve(0);
        x.way(0, 4, 2000);
        x.freeze(1);
        x.stop(0, 0, EVER);
        x.solve(0);
        round("promise 6: least last, behind the frozen", x, 4, 5, 3, 2, 1);
    }

    private static void notTheLeastIfItIsLaterHome() {
        RoundSearch x = withStops(3);
        x.way(1, 0, 1001);
        due("promise 6: home", x.solve(0), 4000);
        round("promise 6: 2 is last", x, 3, 1, 2);
        x.way(2, 0, 1001);
        due("promise 6: home", x.solve(0), 4000);
        round("promise 6: 3 is last", x, 2, 1, 3);
        x.way(3, 0, 1001);
        due("promise 6: home", x.solve(0), 4001);
        round("promise 6: 1 is last again", x, 3, 2, 1);
    }

    /** Behind the long wait at 1 both rows of 2 and 3 are alike, though 2, 3 is done sooner. */
    private static void tiesThroughWaiting() {
        RoundSearch x = new RoundSearch();
        x.stop(0, 9000, EVER);
        x.stop(0, 0, EVER);
        x.stop(0, 0, EVER);
        x.way(1, 0, 0);
        x.way(0, 2, 10);
        x.way(2, 3, 10);
        x.way(3, 1, 10);
        due("promise 6: home", x.solve(0), 9000);
        round("promise 6: the least stop before the wait", x, 3, 2, 1);
    }

    /** To each place there: all before are done as early as can be, here 2 by 4, 3 and not by 3, 4. */
    private static void theBeginningIsAsEarlyAsCanBe() {
        RoundSearch x = new RoundSearch();
        x.stop(0, 9000, EVER);
        x.stop(0, 0, EVER);
        x.stop(0, 0, EVER);
        x.stop(0, 0, EVER);
        x.way(1, 0, 0);
        x.way(3, 2, 999);
        due("promise 6: home", x.solve(0), 9000);
        round("promise 6: 4, 3 is earlier at 2", x, 4, 3, 2, 1);
        x.way(3, 2, 1001);
        due("promise 6: home", x.solve(0), 9000);
        round("promise 6: 3, 4 is earlier at 2", x, 3, 4, 2, 1);
    }

    private static void noGoodRoundIsInserted() {
        RoundSearch x = line();
        x.stop(0, 0, 0);
        due("promise 6: late wherever it is", x.solve(0), 1000 + 1000 + 20 + 15);
        round("promise 6: at the first of the least places", x, 4, 3, 2, 1);
        due("promise 9: late", x.late(0), 4);
        fails("promise 8: inserted", x.exact());
    }

    private static void insertedByNumbersAtTheFirstPlace() {
        RoundSearch x = withStops(12);
        due("promise 6: home", x.solve(0), 13000);
        round("promise 6: each before all others", x, 12, 11, 10, 9, 8, 7, 6, 5, 4, 3, 2, 1);
    }

    private static void insertedInTheMiddleAndAtTheEnd() {
        RoundSearch x = withStops(12);
        x.way(1, 12, 999);
        due("promise 6: home", x.solve(0), 12999);
        round("promise 6: 12 at the end", x, 11, 10, 9, 8, 7, 6, 5, 4, 3, 2, 1, 12);
        x.way(5, 12, 997);
        due("promise 6: home", x.solve(0), 12997);
        round("promise 6: 12 behind 5", x, 11, 10, 9, 8, 7, 6, 5, 12, 4, 3, 2, 1);
    }

    /** 2 before 1 is least until 3 comes; then 1, 3, 2 would be home at 2002, but it is not looked at. */
    private static void insertedWhereItIsLeastThen() {
        RoundSearch x = withStops(3);
        for (int a = 1; a <= 3; a++) {
            x.arc(a, 0, 0);
        }
        x.way(2, 1, 500);
        x.way(1, 3, 1);
        x.way(3, 2, 1);
        due("promise 6: home", x.solve(0), 1000 + 1 + 500 + 1000);
        round("promise 6: 3 at the first place, for 2, 1, 3 is alike", x, 3, 2, 1);
    }

    private static void insertedBehindTheFrozen() {
        RoundSearch x = withStops(14);
        x.solve(0);
        x.freeze(2);
        x.way(0, 1, 0);
        x.way(1, 14, 0);
        due("promise 6: home", x.solve(0), 15000);
        round("promise 6: behind 14 and 13", x, 14, 13, 12, 11, 10, 9, 8, 7, 6, 5, 4, 3, 2, 1);
        fails("promise 8: twelve were left", x.exact());
    }

    /** Barred home from everywhere, so that it is never solved exactly. */
    private static RoundSearch improvedTwice() {
        RoundSearch x = withStops(3);
        for (int a = 1; a <= 3; a++) {
            x.arc(a, 0, 0);
        }
        x.way(0, 1, 0);
        x.way(1, 2, 3000);
        x.way(2, 0, 0);
        x.way(2, 3, 0);
        x.way(3, 0, 500);
        x.way(1, 3, 1500);
        x.way(3, 1, 2000);
        return x;
    }

    /** From 3, 2, 1 the second cost is less; then it begins anew, and the third one from there is less. */
    private static void zeroStepsToTheLastThatIsReckoned() {
        for (long steps = 0; steps <= 9; steps++) {
            RoundSearch x = improvedTwice();
            due("promise 6: steps " + steps, x.solve(steps), steps < 2 ? 4000 : steps < 5 ? 3500 : 2500);
            round("promise 6: steps " + steps, x,
                steps < 2 ? new int[] {3, 2, 1} : steps < 5 ? new int[] {1, 2, 3} : new int[] {1, 3, 2});
        }
        for (long steps : new long[] {99999, 100000}) {
            RoundSearch x = improvedTwice();
            due("promise 6: steps " + steps, x.solve(steps), 2500);
            round("promise 6: steps " + steps, x, 1, 3, 2);
        }
    }

    /** From 4, 3, 2, 1 both 0 with 3 and 1 with 2 are less; the first place counts before the second. */
    private static void exchangesInTheOrderOfPlaces() {
        RoundSearch x = withStops(4);
        for (int a = 1; a <= 4; a++) {
            x.arc(a, 0, 0);
        }
        x.way(2, 4, 500);
        x.way(4, 1, 1500);
        x.way(4, 2, 800);
        x.way(3, 4, 1200);
        due("promise 6: no steps", x.solve(0), 5000);
        round("promise 6: no steps", x, 4, 3, 2, 1);
        due("promise 6: two steps", x.solve(2), 5000);
        round("promise 6: two steps", x, 4, 3, 2, 1);
        due("promise 6: three steps", x.solve(3), 4500);
        round("promise 6: three steps", x, 1, 3, 2, 4);
    }

    /** From 3, 2, 1 (3500) the first that is less is 1, 2, 3 (3400), though 3, 1, 2 (3200) is less still. */
    private static void theFirstThatIsLessIsDone() {
        RoundSearch x = withStops(3);
        for (int a = 1; a <= 3; a++) {
            x.arc(a, 0, 0);
        }
        x.way(0, 2, 1500);
        x.way(1, 0, 500);
        x.way(3, 1, 500);
        x.way(3, 0, 400);
        x.way(0, 3, 700);
        x.way(3, 2, 1300);
        due("promise 6: one step", x.solve(1), 3500);
        round("promise 6: one step", x, 3, 2, 1);
        due("promise 6: two steps", x.solve(2), 3400);
        round("promise 6: two steps", x, 1, 2, 3);
        due("promise 6: until there is none", x.solve(100000), 3400);
        round("promise 6: until there is none", x, 1, 2, 3);
        due("promise 11: 3, 1, 2 is less", x.add(3), 0);
        round("promise 11: 3, 1, 2 is less", x, 3, 1, 2);
    }

    /** 3, 2, 1 (3900), by the third step 3, 1, 2 (3800), and then by the first one anew 1, 3, 2 (3700). */
    private static void itBeginsAnewAtTheFirstPlace() {
        RoundSearch x = withStops(3);
        for (int a = 1; a <= 3; a++) {
            x.arc(a, 0, 0);
        }
        x.way(1, 2, 900);
        x.way(2, 1, 900);
        x.way(3, 1, 900);
        x.way(1, 3, 700);
        x.way(3, 0, 1300);
        due("promise 6: two steps", x.solve(2), 3900);
        round("promise 6: two steps", x, 3, 2, 1);
        due("promise 6: three steps", x.solve(3), 3800);
        round("promise 6: three steps", x, 3, 1, 2);
        due("promise 6: four steps", x.solve(4), 3700);
        round("promise 6: four steps", x, 1, 3, 2);
        due("promise 6: until there is none", x.solve(100000), 3700);
    }

    private static void exchangesBehindTheFrozenAlone() {
        RoundSearch x = improvedTwice();
        x.solve(0);
        x.freeze(1);
        due("promise 6: behind 3", x.solve(100), 4000);
        round("promise 6: behind 3", x, 3, 2, 1);
        x.freeze(3);
        due("promise 6: all frozen", x.solve(100), 4000);
        round("promise 6: all frozen", x, 3, 2, 1);
    }

    private static void exactRoundsNeedNoSteps() {
        RoundSearch x = line();
        x.stop(0, 900, EVER);
        long home = x.solve(100000);
        due("promise 6: alike with no steps", x.solve(0), home);
        holds("promise 8: exact with no steps", x.exact());
    }
}
