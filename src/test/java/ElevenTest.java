import java.util.ArrayList;
import java.util.List;
import java.util.Random;

/** Promise 6, section 'Terms', SOLVED: exact rounds of 7 to 11 free stops, held against all rows of them. */
public final class ElevenTest extends Checks {
    public static void main(String[] args) {
        for (int seed = 1; seed <= 200; seed++) {
            new ElevenTest(seed).run();
        }
        end();
    }

    private final Random chance;
    private final RoundSearch x = new RoundSearch();
    private final Oracle o = new Oracle();
    private final String name;
    private final int free;
    private final int frozen;
    private final int scale;

    private ElevenTest(int seed) {
        chance = new Random(seed);
        name = "promise 6: round " + seed;
        free = 7 + seed % 5;
        frozen = seed % 4 == 0 ? chance.nextInt(10) : 0;
        // With few different ways there are many rounds that are home at the same time.
        scale = seed % 2 == 0 ? 4 : 1000;
    }

    private void run() {
        freezeSome();
        for (int k = 0; k < free; k++) {
            stop(chance.nextInt(4) == 0 ? chance.nextInt(6 * scale) : 0);
        }
        for (int k = 0; k < 200; k++) {
            way();
        }
        for (int k = 0; k < 10; k++) {
            arc();
        }
        long home = x.solve(0);
        long least = o.leastHome();
        if (x.exact()) {
            due(name + ", home", home, least);
            holds(name + ", the row", o.isBest(row(), least));
        } else {
            due(name + ", there is no good round", Oracle.NEVER, least);
        }
    }

    private void freezeSome() {
        for (int k = 0; k < frozen; k++) {
            stop(0);
        }
        // The oracle is told which are frozen, for it cannot look at all rows of nine.
        x.solve(0);
        x.freeze(frozen);
        o.freezeRow(row());
    }

    private void stop(int from) {
        int time = chance.nextInt(scale);
        int until = chance.nextInt(4) == 0 ? from + chance.nextInt(10 * scale) : 1000000;
        x.stop(time, from, until);
        o.stop(time, from, until);
    }

    private void way() {
        int a = chance.nextInt(o.count() + 1);
        int b = chance.nextInt(o.count() + 1);
        int t = chance.nextInt(scale);
        x.way(a, b, t);
        o.way(a, b, t);
    }

    private void arc() {
        int a = chance.nextInt(o.count() + 1);
        int b = chance.nextInt(o.count() + 1);
        x.arc(a, b, 0);
        o.arc(a, b, 0);
    }

    private List<Integer> row() {
        List<Integer> row = new ArrayList<>();
        for (int i = 0; atOrThrown(x, i) != THROWN; i++) {
            row.add(x.at(i));
        }
        return row;
    }
}
