import java.util.ArrayList;
import java.util.List;

/** Rows of calls that show what an object holds. Each is made on an object of its own, for most calls change it. */
enum Later {
    LOOKED_AT {
        void ask(RoundSearch x, List<Long> answers) {
            look(x, answers);
        }
    },
    SOLVED {
        void ask(RoundSearch x, List<Long> answers) {
            answers.add(x.solve(2));
            look(x, answers);
            answers.add((long) x.limit(-1));
            answers.add(x.solve(100000));
            look(x, answers);
        }
    },
    /** The scenes with a limit are just at it with 6 for the first stop. */
    LOADED {
        void ask(RoundSearch x, List<Long> answers) {
            for (int n = 6; n <= 7; n++) {
                answers.add((long) x.load(1, n));
                answers.add(x.solve(0));
                look(x, answers);
            }
        }
    },
    BARRED {
        void ask(RoundSearch x, List<Long> answers) {
            for (int a = 0; a <= 3; a++) {
                for (int b = 0; b <= 3; b++) {
                    answers.add((long) x.arc(a, b, 1));
                    answers.add(x.bound());
                }
            }
            answers.add((long) x.arc(20, 1, 1));
            answers.add((long) x.arc(0, 1, 0));
            look(x, answers);
        }
    },
    MOVED {
        void ask(RoundSearch x, List<Long> answers) {
            for (int i = 0; i < 3; i++) {
                answers.add((long) x.exchange(i, i + 1));
                answers.add((long) x.exchange(17 + i, 18 + i));
            }
            for (int stop = 1; stop <= 20; stop++) {
                answers.add((long) x.add(stop));
            }
            look(x, answers);
        }
    },
    FROZEN {
        void ask(RoundSearch x, List<Long> answers) {
            for (int n = 3; n >= 0; n--) {
                answers.add((long) x.freeze(n));
                answers.add((long) x.exchange(0, 1));
                answers.add((long) x.exchange(1, 2));
            }
            look(x, answers);
        }
    },
    /** Shows also what was told of stops that were not there yet. */
    GROWN {
        void ask(RoundSearch x, List<Long> answers) {
            for (int k = 0; k < 20; k++) {
                answers.add((long) x.stop(k, 0, 1000000));
            }
            answers.add((long) x.load(1, 6));
            answers.add((long) x.arc(0, 1, 1));
            answers.add((long) x.limit(-1));
            answers.add(x.solve(0));
            look(x, answers);
        }
    };

    abstract void ask(RoundSearch x, List<Long> answers);

    /** One object must answer all this as its twin does. */
    void same(String what, RoundSearch x, RoundSearch twin) {
        List<Long> got = new ArrayList<>();
        List<Long> want = new ArrayList<>();
        ask(x, got);
        ask(twin, want);
        for (int k = 0; k < want.size(); k++) {
            Checks.due(what + ", later " + this + " " + k, got.get(k), want.get(k));
        }
    }

    private static void look(RoundSearch x, List<Long> answers) {
        for (int i = 0; i <= 20; i++) {
            answers.add((long) Checks.atOrThrown(x, i));
        }
        for (int i = 0; i < 4; i++) {
            answers.add((long) x.late(i));
        }
        answers.add(x.exact() ? 1L : 0L);
        answers.add(x.bound());
    }
}
