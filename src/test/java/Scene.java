/** Objects in states of several kinds. make() gives a new one each time, so that twins can be compared. */
enum Scene {
    NEW(0, -1, 0) {
        RoundSearch make() {
            return new RoundSearch();
        }
    },
    EMPTY_ROUND(0, 0, 0) {
        RoundSearch make() {
            RoundSearch x = new RoundSearch();
            x.solve(0);
            return x;
        }
    },
    ONE_STOP(1, 1, 0) {
        RoundSearch make() {
            RoundSearch x = new RoundSearch();
            x.stop(5, 0, 1000000);
            x.solve(0);
            return x;
        }
    },
    NEVER_SOLVED(3, -1, 0) {
        RoundSearch make() {
            return three(1000000);
        }
    },
    EXACT(3, 3, 0) {
        RoundSearch make() {
            RoundSearch x = three(1000000);
            x.solve(9);
            return x;
        }
    },
    LATE(3, 3, 0) {
        RoundSearch make() {
            RoundSearch x = three(50);
            x.solve(9);
            return x;
        }
    },
    SOME_FROZEN(3, 3, 1) {
        RoundSearch make() {
            RoundSearch x = EXACT.make();
            x.freeze(1);
            return x;
        }
    },
    ALL_FROZEN(3, 3, 3) {
        RoundSearch make() {
            RoundSearch x = EXACT.make();
            x.freeze(3);
            return x;
        }
    },
    FROZEN_AND_A_STOP_CAME(4, -1, 2) {
        RoundSearch make() {
            RoundSearch x = EXACT.make();
            x.freeze(2);
            x.stop(7, 0, 1000000);
            return x;
        }
    },
    FROZEN_AND_OVER_LIMIT(3, -1, 2) {
        RoundSearch make() {
            RoundSearch x = EXACT.make();
            x.freeze(2);
            x.load(1, 1000);
            x.solve(0);
            return x;
        }
    },
    FULL(20, 20, 0) {
        RoundSearch make() {
            RoundSearch x = twenty();
            x.solve(40);
            return x;
        }
    },
    FULL_AND_EXACT(20, 20, 13) {
        RoundSearch make() {
            RoundSearch x = FULL.make();
            x.freeze(13);
            x.solve(0);
            return x;
        }
    },
    FULL_NEVER_SOLVED(20, -1, 0) {
        RoundSearch make() {
            return twenty();
        }
    };

    /** How many stops there are. */
    final int stops;
    /** How many places the round has; -1 if there is none. */
    final int places;
    /** How many are frozen. */
    final int frozen;

    Scene(int stops, int places, int frozen) {
        this.stops = stops;
        this.places = places;
        this.frozen = frozen;
    }

    abstract RoundSearch make();

    boolean hasRound() {
        return places >= 0;
    }

    /** Loads 3, 4, 5 of at most 15; no two ways alike; 3 to 1 is barred. */
    private static RoundSearch three(long untilOfFirst) {
        RoundSearch x = new RoundSearch();
        x.stop(5, 0, untilOfFirst);
        x.stop(10, 400, 5000);
        x.stop(20, 0, 1000000);
        for (int a = 0; a <= 3; a++) {
            for (int b = 0; b <= 3; b++) {
                x.way(a, b, 100 + 31 * a + 17 * b);
            }
        }
        for (int stop = 1; stop <= 3; stop++) {
            x.load(stop, 2 + stop);
        }
        x.limit(15);
        x.arc(3, 1, 0);
        return x;
    }

    /** Loads 1, 2, .. 20 of at most 215; a ring of short ways; 20 to 1 is barred. */
    private static RoundSearch twenty() {
        RoundSearch x = new RoundSearch();
        for (int stop = 1; stop <= 20; stop++) {
            x.stop(stop, 0, 1000000);
            x.load(stop, stop);
        }
        for (int a = 0; a <= 20; a++) {
            x.way(a, (a + 8) % 21, 100 + a);
            x.way(a, (a + 1) % 21, 300 + a);
        }
        x.limit(215);
        x.arc(20, 1, 0);
        return x;
    }
}
