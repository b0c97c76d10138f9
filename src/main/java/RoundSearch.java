/**
 * Rounds of a carrier: stops with spans, ways between them, a frozen beginning;
 * the least time exactly for up to eleven free stops, else by inserting and exchanging.
 */
public final class RoundSearch {
    public static final int UNKNOWN = -11, OUTSIDE = -12, STATE = -13, ROOM = -14;

    private static final int OFFICE = 0;
    private static final int MOST_STOPS = 20;
    private static final int MOST_FREE = 11;
    private static final int NONE = -1;
    private static final long MOST_SECONDS = 100000L;
    private static final long LATEST_UNTIL = 1000000L;
    private static final long UNTOLD_WAY = 1000L;
    private static final int MOST_LOAD = 1000;
    private static final long MOST_STEPS = 100000L;
    private static final long FAULT = 1000000000L;
    // Later than any round can be, and not so late that a way more would wrap around.
    private static final long NEVER = 1000000000000000L;

    private final Net net = new Net();
    private final ExactSearch exactSearch = new ExactSearch();
    // The frozen stops stand at the front of this row even while there is no round.
    private final int[] round = new int[MOST_STOPS];
    private int length = NONE;
    private int frozen = 0;
    private boolean solvedExactly = false;
    private int most = NONE;

    public RoundSearch() {
    }

    public int stop(long time, long from, long until) {
        if (!isSeconds(time) || from < 0 || from > until || until > LATEST_UNTIL) {
            return OUTSIDE;
        }
        if (net.stops >= MOST_STOPS) {
            return ROOM;
        }
        length = NONE;
        solvedExactly = false;
        return net.append(time, from, until);
    }

    public void way(int a, int b, long t) {
        if (!net.isPoint(a) || !net.isPoint(b) || a == b || !isSeconds(t)) {
            return;
        }
        net.tellWay(a, b, t);
        solvedExactly = false;
    }

    public int load(int stop, int n) {
        if (!net.isStop(stop)) {
            return UNKNOWN;
        }
        if (n < 0 || n > MOST_LOAD) {
            return OUTSIDE;
        }
        net.tellLoad(stop, n);
        return net.loads();
    }

    public int limit(int n) {
        if (n < NONE) {
            return OUTSIDE;
        }
        most = n;
        return n == NONE ? 0 : 1;
    }

    public long solve(long steps) {
        if (steps < 0 || steps > MOST_STEPS) {
            return OUTSIDE;
        }
        if (most != NONE && net.loads() > most) {
            length = NONE;
            return STATE;
        }
        solvedExactly = exactSearch.fill(net, round, frozen);
        length = net.stops;
        if (!solvedExactly) {
            insertFreeStops();
            improve(steps);
        }
        return net.home(round, length);
    }

    public int at(int i) throws ArrayIndexOutOfBoundsException {
        if (i < 0 || i >= length) {
            throw new ArrayIndexOutOfBoundsException("no such place in the round");
        }
        return round[i];
    }

    public boolean exact() {
        return solvedExactly;
    }

    public int late(int i) {
        return i < 0 || length == NONE ? 0 : net.lateStop(round, length, i);
    }

    public int freeze(int n) {
        if (n < 0 || (length != NONE && n > length)) {
            return UNKNOWN;
        }
        if (length == NONE) {
            return STATE;
        }
        frozen = n;
        return n;
    }

    public int add(int stop) {
        if (!net.isStop(stop)) {
            return UNKNOWN;
        }
        int place = placeOf(stop);
        if (place < frozen) {
            return STATE;
        }
        for (int k = place; k + 1 < length; k++) {
            swap(k, k + 1);
        }
        solvedExactly = false;
        return insert(stop, length - 1);
    }

    public int arc(int a, int b, int kind) {
        if (!net.isPoint(a) || !net.isPoint(b)) {
            return UNKNOWN;
        }
        if (kind < 0 || kind > 1 || a == b) {
            return OUTSIDE;
        }
        solvedExactly = false;
        return net.bar(a, b, kind == 0);
    }

    public int exchange(int i, int j) {
        if (!isPlace(i) || !isPlace(j)) {
            return UNKNOWN;
        }
        if (length == NONE || i < frozen || j < frozen || i == j) {
            return STATE;
        }
        if (!swapIfLess(i, j, net.cost(round, length))) {
            return 0;
        }
        solvedExactly = false;
        return 1;
    }

    public long bound() {
        return net.leastTime();
    }

    private static boolean isSeconds(long t) {
        return t >= 0 && t <= MOST_SECONDS;
    }

    // Without a round the document takes every number from 0 on for a place.
    private boolean isPlace(int i) {
        return i >= 0 && (length == NONE || i < length);
    }

    // NONE without a round; a round always has every stop.
    private int placeOf(int stop) {
        for (int k = 0; k < length; k++) {
            if (round[k] == stop) {
                return k;
            }
        }
        return NONE;
    }

    private void insertFreeStops() {
        int count = frozen;
        for (int stop = 1; stop <= net.stops; stop++) {
            if (!Net.holds(round, frozen, stop)) {
                insert(stop, count);
                count++;
            }
        }
    }

    // Puts a stop where the cost is least into the first so many of the row, which does not hold it there yet.
    private int insert(int stop, int count) {
        for (int k = count; k > frozen; k--) {
            round[k] = round[k - 1];
        }
        round[frozen] = stop;
        int place = frozen;
        long least = net.cost(round, count + 1);
        for (int k = frozen; k < count; k++) {
            swap(k, k + 1);
            long cost = net.cost(round, count + 1);
            if (cost < least) {
                least = cost;
                place = k + 1;
            }
        }
        for (int k = count; k > place; k--) {
            swap(k, k - 1);
        }
        return place;
    }

    // Every turn reckons the cost of one exchange; one that is done makes the order begin anew.
    private void improve(long steps) {
        long cost = net.cost(round, length);
        int i = frozen;
        int j = i + 1;
        for (long used = 0; used < steps && j < length; used++) {
            if (swapIfLess(i, j, cost)) {
                cost = net.cost(round, length);
                i = frozen;
                j = i + 1;
            } else if (j + 1 < length) {
                j++;
            } else {
                i++;
                j = i + 1;
            }
        }
    }

    private boolean swapIfLess(int i, int j, long cost) {
        swap(i, j);
        if (net.cost(round, length) < cost) {
            return true;
        }
        swap(i, j);
        return false;
    }

    private void swap(int i, int j) {
        int stop = round[i];
        round[i] = round[j];
        round[j] = stop;
    }

    /** The stops and the ways between them; a point is a stop or the office. */
    private static final class Net {
        private static final int POINTS = MOST_STOPS + 1;

        private int stops = 0;
        private int barredWays = 0;
        private final long[] time = new long[POINTS];
        private final long[] from = new long[POINTS];
        private final long[] until = new long[POINTS];
        private final int[] load = new int[POINTS];
        private final long[] way = new long[POINTS * POINTS];
        private final boolean[] barred = new boolean[POINTS * POINTS];

        Net() {
            for (int k = 0; k < way.length; k++) {
                way[k] = UNTOLD_WAY;
            }
            // Nobody is late at the office, so that a leg home is a leg like others.
            until[OFFICE] = NEVER;
        }

        static int between(int a, int b) {
            return a * POINTS + b;
        }

        static boolean holds(int[] row, int count, int stop) {
            for (int k = 0; k < count; k++) {
                if (row[k] == stop) {
                    return true;
                }
            }
            return false;
        }

        boolean isStop(int number) {
            return number > OFFICE && number <= stops;
        }

        boolean isPoint(int number) {
            return number == OFFICE || isStop(number);
        }

        int append(long itsTime, long itsFrom, long itsUntil) {
            stops++;
            time[stops] = itsTime;
            from[stops] = itsFrom;
            until[stops] = itsUntil;
            return stops;
        }

        void tellWay(int a, int b, long t) {
            way[between(a, b)] = t;
        }

        void tellLoad(int stop, int n) {
            load[stop] = n;
        }

        int loads() {
            int sum = 0;
            for (int stop = 1; stop <= stops; stop++) {
                sum += load[stop];
            }
            return sum;
        }

        int bar(int a, int b, boolean shut) {
            int k = between(a, b);
            if (barred[k] != shut) {
                barred[k] = shut;
                barredWays += shut ? 1 : -1;
            }
            return barredWays;
        }

        long doneAt(int stop, long coming) {
            return Math.max(coming, from[stop]) + time[stop];
        }

        // When a point is done that is gone to from another one left at a time; NEVER if that is not good.
        long goodLeg(int here, long clock, int next) {
            int k = between(here, next);
            if (clock == NEVER || barred[k]) {
                return NEVER;
            }
            long coming = clock + way[k];
            return coming > until[next] ? NEVER : doneAt(next, coming);
        }

        long cost(int[] row, int count) {
            if (count == 0) {
                return 0;
            }
            long faults = 0;
            long clock = 0;
            int here = OFFICE;
            for (int k = 0; k < count; k++) {
                int next = row[k];
                int leg = between(here, next);
                clock += way[leg];
                faults += barred[leg] ? 1 : 0;
                faults += clock > until[next] ? 1 : 0;
                clock = doneAt(next, clock);
                here = next;
            }
            int back = between(here, OFFICE);
            faults += barred[back] ? 1 : 0;
            return faults * FAULT + clock + way[back];
        }

        // The longest round of twenty stops is home far before FAULT, so the rest of the cost is the time.
        long home(int[] row, int count) {
            return cost(row, count) % FAULT;
        }

        int lateStop(int[] row, int count, int i) {
            int before = 0;
            long clock = 0;
            int here = OFFICE;
            for (int k = 0; k < count; k++) {
                int next = row[k];
                clock += way[between(here, next)];
                if (clock > until[next]) {
                    if (before == i) {
                        return next;
                    }
                    before++;
                }
                clock = doneAt(next, clock);
                here = next;
            }
            return 0;
        }

        long leastTime() {
            if (stops == 0) {
                return 0;
            }
            long sum = 0;
            for (int point = 0; point <= stops; point++) {
                long least = leastWayTo(point);
                if (least == NEVER) {
                    return NONE;
                }
                sum += time[point] + least;
            }
            return sum;
        }

        private long leastWayTo(int point) {
            long least = NEVER;
            for (int other = 0; other <= stops; other++) {
                int k = between(other, point);
                if (other != point && !barred[k]) {
                    least = Math.min(least, way[k]);
                }
            }
            return least;
        }
    }

    /** Finds the good round that is home first, over all sets of free stops and their last ones. */
    private static final class ExactSearch {
        private final int[] free = new int[MOST_FREE];
        private int count = 0;
        // When the last stop of a set is done as early as can be; it grows only as far as a search needs.
        private long[] done = new long[0];
        private int start = OFFICE;
        private long startClock = 0;

        // Whether there is a good round that begins with the frozen stops; it then stands in the row.
        boolean fill(Net net, int[] row, int frozen) {
            if (net.stops - frozen > MOST_FREE) {
                return false;
            }
            followFrozen(net, row, frozen);
            if (startClock == NEVER) {
                return false;
            }
            collectFree(net, row, frozen);
            reckonSets(net);
            long home = earliest(net, (1 << count) - 1, OFFICE);
            if (home == NEVER) {
                return false;
            }
            readBack(net, row, frozen, home);
            return true;
        }

        private void followFrozen(Net net, int[] row, int frozen) {
            start = OFFICE;
            startClock = 0;
            for (int k = 0; k < frozen; k++) {
                startClock = net.goodLeg(start, startClock, row[k]);
                start = row[k];
            }
        }

        private void collectFree(Net net, int[] row, int frozen) {
            count = 0;
            for (int stop = 1; stop <= net.stops && count < MOST_FREE; stop++) {
                if (!Net.holds(row, frozen, stop)) {
                    free[count] = stop;
                    count++;
                }
            }
        }

        private void reckonSets(Net net) {
            int sets = 1 << count;
            if (done.length < sets * count) {
                done = new long[sets * count];
            }
            for (int set = 1; set < sets; set++) {
                for (int last = 0; last < count; last++) {
                    if (has(set, last)) {
                        done[set * count + last] = earliest(net, set ^ (1 << last), free[last]);
                    }
                }
            }
        }

        private static boolean has(int set, int last) {
            return ((set >> last) & 1) == 1;
        }

        // When a point can be done at the earliest behind a set of free stops. The office behind nobody is
        // well, too: no way from it to itself is ever barred, so a round without stops is a good one.
        private long earliest(Net net, int set, int next) {
            if (set == 0) {
                return net.goodLeg(start, startClock, next);
            }
            long least = NEVER;
            for (int last = 0; last < count; last++) {
                if (has(set, last)) {
                    least = Math.min(least, net.goodLeg(free[last], done[set * count + last], next));
                }
            }
            return least;
        }

        private void readBack(Net net, int[] row, int frozen, long home) {
            int set = (1 << count) - 1;
            int next = OFFICE;
            long due = home;
            for (int place = frozen + count - 1; place >= frozen; place--) {
                int last = leastLast(net, set, next, due);
                row[place] = free[last];
                next = free[last];
                due = done[set * count + last];
                set ^= 1 << last;
            }
        }

        // The set always has one that fits, since its earliest time was reckoned from one of them.
        private int leastLast(Net net, int set, int next, long due) {
            int last = 0;
            while (last < count - 1 && !fits(net, set, last, next, due)) {
                last++;
            }
            return last;
        }

        private boolean fits(Net net, int set, int last, int next, long due) {
            return has(set, last)
                && net.goodLeg(free[last], done[set * count + last], next) == due;
        }
    }
}
