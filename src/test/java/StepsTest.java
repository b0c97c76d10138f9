import java.util.Random;

/**
 * Promise 6, section 'Terms', SOLVED: 0 STEPS, the last step by which an exchange is done, one less, one more, and
 * as many as there may be, with rounds that need up to some 3000 of them.
 */
public final class StepsTest extends Checks {
    private static final long MOST = 100000;

    private final Random chance;
    private final String name;
    private final RoundSearch x = new RoundSearch();
    private final Oracle o = new Oracle();

    public static void main(String[] args) {
        long longest = 0;
        for (int seed = 1; seed <= 120; seed++) {
            longest = Math.max(longest, new StepsTest(seed).run());
        }
        holds("promise 6: a round needs more than 3000 steps, " + longest, longest > 3000);
        end();
    }

    private StepsTest(int seed) {
        chance = new Random(seed);
        name = "promise 6: round " + seed;
        int stops = seed % 2 == 0 ? 20 : 12 + chance.nextInt(8);
        for (int k = 0; k < stops; k++) {
            tellStop();
        }
        for (int k = 0; k < 350; k++) {
            tellWay(chance.nextInt(stops + 1), chance.nextInt(stops + 1));
        }
    }

    private void tellStop() {
        long time = chance.nextInt(100);
        long from = chance.nextInt(3) == 0 ? chance.nextInt(10000) : 0;
        long until = from + chance.nextInt(10000);
        x.stop(time, from, until);
        o.stop(time, from, until);
    }

    private void tellWay(int a, int b) {
        long t = chance.nextInt(2000);
        x.way(a, b, t);
        o.way(a, b, t);
    }

    /** The number of the last step by which an exchange is done. */
    private long run() {
        long home = o.solve(MOST);
        long last = o.lastStep();
        due(name + ", all steps", x.solve(MOST), home);
        same();
        for (long steps : new long[] {0, 1, last / 2, last - 1, last, last + 1, MOST - 1}) {
            if (steps >= 0) {
                due(name + ", steps " + steps, x.solve(steps), o.solve(steps));
                same();
            }
        }
        return last;
    }

    private void same() {
        for (int i = 0; i < 20 && i < o.count(); i += 3) {
            due(name + ", at " + i, atOrThrown(x, i), o.at(i));
        }
    }
}
