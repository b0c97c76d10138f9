/** Section 'Terms': what a ROUND is, when it is GOOD, and what its COST is (promises 6, 8, 9 and 13 show it). */
public final class TermsRoundTest extends Checks {
    public static void main(String[] args) {
        runAll(TermsRoundTest.class);
    }

    private static void untoldWaysTakeThousand() {
        due("promise 6: one stop", withStops(1).solve(0), 2000);
        due("promise 6: two stops", withStops(2).solve(0), 3000);
        due("promise 6: twenty stops", withStops(20).solve(0), 21000);
    }

    private static void homeAtZeroWithoutStops() {
        due("promise 6: no stops", new RoundSearch().solve(0), 0);
    }

    private static RoundSearch reached(long way, long time, long from, long until) {
        RoundSearch x = new RoundSearch();
        x.stop(time, from, until);
        x.way(0, 1, way);
        x.way(1, 0, 10);
        return x;
    }

    private static void beforeAtAndBehindFrom() {
        due("promise 6: long before FROM", reached(0, 7, 500, 600).solve(0), 500 + 7 + 10);
        due("promise 6: one before FROM", reached(499, 7, 500, 600).solve(0), 500 + 7 + 10);
        due("promise 6: at FROM", reached(500, 7, 500, 600).solve(0), 500 + 7 + 10);
        due("promise 6: one behind FROM", reached(501, 7, 500, 600).solve(0), 501 + 7 + 10);
    }

    private static void beforeAtAndBehindUntil() {
        for (long way = 599; way <= 601; way++) {
            RoundSearch x = reached(way, 7, 500, 600);
            due("promise 6: home by way " + way, x.solve(0), way + 7 + 10);
            due("promise 9: late by way " + way, x.late(0), way > 600 ? 1 : 0);
            due("promise 8: exact by way " + way, x.exact() ? 1 : 0, way > 600 ? 0 : 1);
        }
    }

    private static void aSpanOfOneSecond() {
        for (long way = 499; way <= 501; way++) {
            RoundSearch x = reached(way, 7, 500, 500);
            due("promise 6: home by way " + way, x.solve(0), Math.max(way, 500) + 7 + 10);
            due("promise 9: late by way " + way, x.late(0), way > 500 ? 1 : 0);
        }
    }

    private static void theEndsOfSpans() {
        due("promise 9: at 0 in 0 .. 0", solvedLate(reached(0, 0, 0, 0)), 0);
        due("promise 9: at 1 in 0 .. 0", solvedLate(reached(1, 0, 0, 0)), 1);
        due("promise 6: the latest span", reached(0, 100000, 1000000, 1000000).solve(0), 1100010);
    }

    private static int solvedLate(RoundSearch x) {
        x.solve(0);
        return x.late(0);
    }

    /** Only the coming must be in the span; the time at the stop may go beyond it. */
    private static void theTimeMayGoBeyondUntil() {
        RoundSearch x = reached(600, 100000, 500, 600);
        due("promise 6: done behind UNTIL", x.solve(0), 600 + 100000 + 10);
        due("promise 9: not late", x.late(0), 0);
        holds("promise 8: good", x.exact());
    }

    private static void atAMillionAndBehindIt() {
        for (long way = 999; way <= 1001; way++) {
            RoundSearch x = withStops(1);
            x.stop(0, 999000, 1000000);
            x.arc(0, 1, 0);
            x.arc(1, 2, 0);
            x.way(2, 1, way);
            due("promise 6: home by way " + way, x.solve(0), 999000 + way + 1000);
            due("promise 9: late by way " + way, x.late(0), way > 1000 ? 1 : 0);
        }
    }

    private static void barredOnEachKindOfWay() {
        RoundSearch x = withStops(1);
        x.arc(0, 1, 0);
        x.solve(0);
        fails("promise 8: barred from the office", x.exact());
        x.arc(0, 1, 1);
        x.solve(0);
        holds("promise 8: free again", x.exact());
        x.arc(1, 0, 0);
        x.solve(0);
        fails("promise 8: barred to the office", x.exact());
        x.arc(1, 0, 1);
        x.solve(0);
        holds("promise 8: free again", x.exact());
        RoundSearch y = withStops(2);
        y.arc(1, 2, 0);
        y.solve(0);
        holds("promise 8: one direction between stops", y.exact());
        y.arc(2, 1, 0);
        y.solve(0);
        fails("promise 8: both directions between stops", y.exact());
        y.arc(1, 2, 1);
        y.solve(0);
        holds("promise 8: the other one free again", y.exact());
        round("promise 8: by that way", y, 1, 2);
    }

    private static void aBarredWayTakesItsTime() {
        RoundSearch x = withStops(1);
        x.way(0, 1, 70);
        x.arc(0, 1, 0);
        due("promise 6: its seconds", x.solve(0), 1070);
    }

    /** 1, 2, 3 is reached by three barred ways more than 3, 2, 1, and is sooner home. */
    private static void costBeyondAnInt() {
        RoundSearch x = withStops(3);
        for (int a = 1; a <= 3; a++) {
            x.arc(a, 0, 0);
            x.arc(0, a, 0);
        }
        x.arc(1, 2, 0);
        x.arc(2, 3, 0);
        x.way(1, 2, 0);
        x.way(2, 3, 0);
        due("promise 6: two faults beside four", x.solve(100), 4000);
        round("promise 6: two faults beside four", x, 3, 2, 1);
        due("promise 13: four are not less", x.exchange(0, 2), 0);
        x.arc(3, 2, 0);
        x.arc(2, 1, 0);
        due("promise 13: four and sooner home", x.exchange(0, 2), 1);
        x.arc(3, 2, 1);
        x.arc(2, 1, 1);
        due("promise 13: back to two", x.exchange(0, 2), 1);
        round("promise 13: back to two", x, 3, 2, 1);
    }

    /** All ways but one are barred, and all stops are late: 41 faults, and one less by that way. */
    private static void allFaultsThatThereAre() {
        RoundSearch x = new RoundSearch();
        for (int k = 0; k < 20; k++) {
            x.stop(0, 0, 999);
        }
        for (int a = 0; a <= 20; a++) {
            for (int b = 0; b <= 20; b++) {
                if (a != b) {
                    x.arc(a, b, 0);
                }
            }
        }
        x.solve(0);
        due("promise 6: 20 first", x.at(0), 20);
        due("promise 13: 41 faults beside 41", x.exchange(0, 19), 0);
        x.arc(0, 1, 1);
        due("promise 13: 40 faults beside 41", x.exchange(0, 19), 1);
        due("promise 13: 1 first", x.at(0), 1);
        due("promise 9: the last is late, too", x.late(19), 20);
    }
}
