/** Counts the answers that are not as due, and ends the test by them. */
final class Checks {
    private int made = 0;
    private int wrong = 0;

    void due(String what, long got, long want) {
        made++;
        if (got != want) {
            wrong++;
            System.out.println(what + " answered " + got + ", due is " + want);
        }
    }

    void holds(String what, boolean got) {
        due(what, got ? 1 : 0, 1);
    }

    void fails(String what, boolean got) {
        due(what, got ? 1 : 0, 0);
    }

    /** The round must be these stops and no more. */
    void round(String what, RoundSearch x, int... stops) {
        for (int i = 0; i < stops.length; i++) {
            due(what + ": at(" + i + ")", atOrThrown(x, i), stops[i]);
        }
        due(what + ": at(" + stops.length + ")", atOrThrown(x, stops.length), THROWN);
    }

    static final int THROWN = Integer.MIN_VALUE;

    static int atOrThrown(RoundSearch x, int i) {
        try {
            return x.at(i);
        } catch (ArrayIndexOutOfBoundsException e) {
            return THROWN;
        }
    }

    void end() {
        System.out.println(made + " answers, " + wrong + " not as due");
        if (wrong != 0 || made == 0) {
            System.exit(1);
        }
    }
}
