import java.lang.reflect.InvocationTargetException;
import java.lang.reflect.Method;
import java.lang.reflect.Modifier;
import java.util.Arrays;
import java.util.Comparator;
import java.util.function.Consumer;
import java.util.function.ToLongFunction;

/** What every test here is made of: it counts the answers that are not as due, and ends the test by them. */
abstract class Checks {
    static final int UNKNOWN = -11;
    static final int OUTSIDE = -12;
    static final int STATE = -13;
    static final int ROOM = -14;
    static final int THROWN = Integer.MIN_VALUE;
    static final long EVER = 1000000L;
    /** The ends of int. */
    static final int[] FAR = {Integer.MIN_VALUE, Integer.MAX_VALUE};
    /** The ends of long and, behind them, numbers that would be 0, 1 or 5 if they were cut to an int. */
    static final long[] FAR_LONGS = {
        Long.MIN_VALUE, Long.MAX_VALUE, 1L << 32, -(1L << 32), (1L << 32) + 1, (1L << 32) + 5, (1L << 63) + 5
    };

    private static int made = 0;
    private static int wrong = 0;

    /** Runs every function of a test that takes nothing, so that none is forgotten, and ends it. */
    static void runAll(Class<?> test) {
        Method[] methods = test.getDeclaredMethods();
        Arrays.sort(methods, Comparator.comparing(Method::getName));
        for (Method m : methods) {
            if (Modifier.isStatic(m.getModifiers()) && !m.isSynthetic()
                && m.getParameterCount() == 0 && m.getReturnType() == void.class) {
                run(m);
            }
        }
        end();
    }

    private static void run(Method m) {
        int before = made;
        try {
            m.setAccessible(true);
            m.invoke(null);
        } catch (InvocationTargetException | IllegalAccessException e) {
            due(m.getName() + " threw " + e.getCause(), 1, 0);
        }
        if (made == before) {
            due(m.getName() + " looks at nothing", 0, 1);
        }
    }

    static void end() {
        System.out.println(made + " answers, " + wrong + " not as due");
        if (wrong != 0 || made == 0) {
            System.exit(1);
        }
    }

    static void due(String what, long got, long want) {
        made++;
        if (got != want) {
            wrong++;
            System.out.println(what + " answered " + got + ", due is " + want);
        }
    }

    static void holds(String what, boolean got) {
        due(what, got ? 1 : 0, 1);
    }

    static void fails(String what, boolean got) {
        due(what, got ? 1 : 0, 0);
    }

    /** The round must be these stops and no more. */
    static void round(String what, RoundSearch x, int... stops) {
        for (int i = 0; i < stops.length; i++) {
            due(what + ": at(" + i + ")", atOrThrown(x, i), stops[i]);
        }
        due(what + ": at(" + stops.length + ")", atOrThrown(x, stops.length), THROWN);
    }

    static int atOrThrown(RoundSearch x, int i) {
        try {
            return x.at(i);
        } catch (ArrayIndexOutOfBoundsException e) {
            return THROWN;
        }
    }

    /** The call must be answered so, and whatever is called later must be answered as if it had not been made. */
    static void refused(String what, Scene scene, ToLongFunction<RoundSearch> call, long want) {
        for (Later later : Later.values()) {
            RoundSearch asked = scene.make();
            String here = what + " in " + scene;
            due(here, call.applyAsLong(asked), want);
            later.same(here, asked, scene.make());
        }
    }

    static void refusedEverywhere(String what, ToLongFunction<RoundSearch> call, long want) {
        for (Scene scene : Scene.values()) {
            refused(what, scene, call, want);
        }
    }

    /** As refused(), for a call without an answer. */
    static void nothingComes(String what, Scene scene, Consumer<RoundSearch> call) {
        refused(what, scene, x -> {
            call.accept(x);
            return 0;
        }, 0);
    }

    static RoundSearch withStops(int n) {
        RoundSearch x = new RoundSearch();
        for (int k = 0; k < n; k++) {
            x.stop(0, 0, EVER);
        }
        return x;
    }

    /** Three stops on a line 1, 2, 3: each way takes ten a stop that it passes, to the office five more. */
    static RoundSearch line() {
        RoundSearch x = withStops(3);
        for (int a = 1; a <= 3; a++) {
            x.way(0, a, 10 * a);
            x.way(a, 0, 10 * a + 5);
            for (int b = 1; b <= 3; b++) {
                x.way(a, b, 10L * Math.abs(a - b));
            }
        }
        return x;
    }

    /** The line, solved: 3, 2, 1 and home at 65. */
    static RoundSearch solvedLine() {
        RoundSearch x = line();
        x.solve(0);
        return x;
    }
}
