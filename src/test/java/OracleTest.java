import java.util.Random;
import java.util.function.LongSupplier;

/**
 * Promises 1 to 14 and section 'What it is': chance runs of 512 calls, always the same ones, on the class and on
 * the oracle: the answers must be alike.
 */
public final class OracleTest extends Checks {
    private static final int CALLS = 512;

    private final Random chance;
    private final RoundSearch x = new RoundSearch();
    private final Oracle o = new Oracle();
    private final String name;
    private final int mostStops;
    private final int scale;
    private int called = 0;

    private OracleTest(int seed) {
        chance = new Random(seed);
        name = "run " + seed;
        // Few stops for exact rounds, many for those that are inserted.
        mostStops = seed % 3 == 0 ? 20 : Oracle.MOST_LOOKED_AT;
        scale = seed % 2 == 0 ? 4 : 1000;
    }

    public static void main(String[] args) {
        for (int seed = 1; seed <= 3000; seed++) {
            new OracleTest(seed).run();
        }
        end();
    }

    private void run() {
        int first = mostStops == 20 ? 12 + chance.nextInt(8) : chance.nextInt(mostStops + 1);
        for (int k = 0; k < first; k++) {
            stop();
        }
        for (int k = 0; k < 3 * first; k++) {
            way();
        }
        while (called < CALLS) {
            call();
            look();
        }
    }

    /** What an object answers behind its 512th call is free, so it is not asked then. */
    private void ask(String call, LongSupplier got, LongSupplier want) {
        if (called < CALLS) {
            called++;
            due(name + ", call " + called + ", " + call, got.getAsLong(), want.getAsLong());
        }
    }

    private void call() {
        switch (chance.nextInt(12)) {
            case 0 -> maybeStop();
            case 1, 2 -> way();
            case 3 -> load();
            case 4 -> limit();
            case 5, 6 -> maybeSolve();
            case 7 -> freeze();
            case 8 -> add();
            case 9, 10 -> arc();
            default -> exchange();
        }
    }

    private int point() {
        return switch (chance.nextInt(60)) {
            case 0 -> Integer.MAX_VALUE;
            case 1 -> Integer.MIN_VALUE;
            default -> chance.nextInt(o.count() + 3) - 1;
        };
    }

    private long seconds(long most) {
        return switch (chance.nextInt(40)) {
            case 0 -> -1;
            case 1 -> most;
            case 2 -> most + 1;
            case 3 -> chance.nextLong();
            default -> chance.nextInt(scale);
        };
    }

    private void stop() {
        long time = seconds(100000);
        long from = chance.nextInt(3) == 0 ? chance.nextInt(10 * scale) : 0;
        long until = chance.nextInt(3) == 0 ? from + chance.nextInt(10 * scale) - 1 : 1000000;
        ask("stop", () -> x.stop(time, from, until), () -> o.stop(time, from, until));
    }

    private void maybeStop() {
        if (o.count() < mostStops || mostStops == 20) {
            stop();
        }
    }

    private void way() {
        int a = point();
        int b = point();
        long t = seconds(100000);
        ask("way", () -> {
            x.way(a, b, t);
            o.way(a, b, t);
            return 0;
        }, () -> 0);
    }

    private void load() {
        int stop = point();
        int n = chance.nextInt(10) == 0 ? 1001 : chance.nextInt(10) - 1;
        ask("load", () -> x.load(stop, n), () -> o.load(stop, n));
    }

    private void limit() {
        int n = chance.nextBoolean() ? -1 : chance.nextInt(60) - 2;
        ask("limit", () -> x.limit(n), () -> o.limit(n));
    }

    // The oracle looks at every row, so it is not asked for more free stops than it can look at.
    private void maybeSolve() {
        if (o.free() <= Oracle.MOST_LOOKED_AT || o.free() > 11) {
            long steps = chance.nextInt(10) == 0 ? 100001 : chance.nextInt(5) == 0 ? 100000 : chance.nextInt(100) - 1;
            ask("solve", () -> x.solve(steps), () -> o.solve(steps));
            lookAtAll();
        }
    }

    private void freeze() {
        int n = chance.nextInt(3) == 0 ? point() : chance.nextInt(3);
        ask("freeze", () -> x.freeze(n), () -> o.freeze(n));
    }

    private void add() {
        int stop = point();
        ask("add", () -> x.add(stop), () -> o.add(stop));
    }

    private void arc() {
        int a = point();
        int b = point();
        int kind = chance.nextInt(10) == 0 ? 2 : chance.nextInt(2);
        ask("arc", () -> x.arc(a, b, kind), () -> o.arc(a, b, kind));
    }

    private void exchange() {
        int i = point();
        int j = point();
        ask("exchange", () -> x.exchange(i, j), () -> o.exchange(i, j));
    }

    private void look() {
        lookAt(point());
        ask("exact", () -> x.exact() ? 1 : 0, () -> o.exact() ? 1 : 0);
        if (chance.nextInt(4) == 0) {
            ask("bound", x::bound, o::bound);
        }
    }

    private void lookAtAll() {
        for (int i = -1; i <= o.count(); i++) {
            lookAt(i);
        }
    }

    private void lookAt(int i) {
        ask("at(" + i + ")", () -> atOrThrown(x, i), () -> o.at(i));
        ask("late(" + i + ")", () -> x.late(i), () -> o.late(i));
    }
}
