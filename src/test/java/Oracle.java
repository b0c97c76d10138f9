import java.util.ArrayList;
import java.util.Arrays;
import java.util.Collections;
import java.util.List;

/** A slow second RoundSearch: it looks at every row of the free stops, as the document's words say it. */
final class Oracle {
    private static final int UNKNOWN = Checks.UNKNOWN;
    private static final int OUTSIDE = Checks.OUTSIDE;
    private static final int STATE = Checks.STATE;
    private static final int ROOM = Checks.ROOM;
    static final long NEVER = Long.MAX_VALUE;
    static final int MOST_LOOKED_AT = 6;

    private record Stop(long time, long from, long until) {
    }

    private record Walk(long home, List<Integer> late, int barred) {
        boolean good() {
            return late.isEmpty() && barred == 0;
        }

        long cost() {
            return home + 1000000000L * (late.size() + barred);
        }
    }

    private final List<Stop> stops = new ArrayList<>(List.of(new Stop(0, 0, 0)));
    private final long[][] way = new long[21][21];
    private final boolean[][] isBarred = new boolean[21][21];
    private final int[] load = new int[21];
    private int limit = -1;
    private List<Integer> round = null;
    private List<Integer> frozen = new ArrayList<>();
    private boolean exact = false;
    private long lastStep = 0;

    Oracle() {
        for (long[] row : way) {
            Arrays.fill(row, 1000);
        }
    }

    int count() {
        return stops.size() - 1;
    }

    int free() {
        return count() - frozen.size();
    }

    private boolean known(int point, int least) {
        return point >= least && point <= count();
    }

    int stop(long time, long from, long until) {
        if (time < 0 || time > 100000 || from < 0 || from > until || until > 1000000) {
            return OUTSIDE;
        }
        if (count() == 20) {
            return ROOM;
        }
        stops.add(new Stop(time, from, until));
        round = null;
        exact = false;
        return count();
    }

    void way(int a, int b, long t) {
        if (known(a, 0) && known(b, 0) && a != b && t >= 0 && t <= 100000) {
            way[a][b] = t;
            exact = false;
        }
    }

    int load(int stop, int n) {
        if (!known(stop, 1)) {
            return UNKNOWN;
        }
        if (n < 0 || n > 1000) {
            return OUTSIDE;
        }
        load[stop] = n;
        return loads();
    }

    private int loads() {
        return Arrays.stream(load).sum();
    }

    int limit(int n) {
        if (n < -1) {
            return OUTSIDE;
        }
        limit = n;
        return n < 0 ? 0 : 1;
    }

    private Walk walk(List<Integer> row) {
        long clock = 0;
        int here = 0;
        int bars = 0;
        List<Integer> late = new ArrayList<>();
        for (int next : row) {
            Stop s = stops.get(next);
            bars += isBarred[here][next] ? 1 : 0;
            clock += way[here][next];
            if (clock > s.until) {
                late.add(next);
            }
            clock = Math.max(clock, s.from) + s.time;
            here = next;
        }
        if (!row.isEmpty()) {
            bars += isBarred[here][0] ? 1 : 0;
            clock += way[here][0];
        }
        return new Walk(clock, late, bars);
    }

    /** When the last of the row is done; NEVER if it is not good up to there. */
    private long done(List<Integer> row) {
        long clock = 0;
        int here = 0;
        for (int next : row) {
            clock = leg(here, clock, next);
            here = next;
        }
        return clock;
    }

    private static void rows(List<Integer> begin, List<Integer> rest, List<List<Integer>> into) {
        if (rest.isEmpty()) {
            into.add(begin);
        }
        for (int k = 0; k < rest.size(); k++) {
            List<Integer> longer = new ArrayList<>(begin);
            longer.add(rest.get(k));
            List<Integer> fewer = new ArrayList<>(rest);
            fewer.remove(k);
            rows(longer, fewer, into);
        }
    }

    private List<Integer> freeStops() {
        List<Integer> free = new ArrayList<>();
        for (int stop = 1; stop <= count(); stop++) {
            if (!frozen.contains(stop)) {
                free.add(stop);
            }
        }
        return free;
    }

    private List<Integer> bestGood() {
        List<List<Integer>> all = new ArrayList<>();
        rows(new ArrayList<>(frozen), freeStops(), all);
        long home = leastHome();
        all.removeIf(row -> !isBest(row, home));
        return all.isEmpty() ? null : all.get(0);
    }

    /** When a good round is home at the earliest; NEVER if there is none. */
    long leastHome() {
        return nextBehind(freeStops(), 0);
    }

    /** Whether the row is the one that is home first, and of several the one that the document means. */
    boolean isBest(List<Integer> row, long leastHome) {
        Walk walk = walk(row);
        return walk.good() && walk.home == leastHome && leastFromBehind(row);
    }

    /**
     * Whether at each place all to there are done as early as they can be, and there is the least stop with
     * which the next one is done as early as in this round. Without the first, two rounds could be meant
     * where a wait hides that one of them comes to it later.
     */
    private boolean leastFromBehind(List<Integer> row) {
        for (int place = row.size() - 1; place >= frozen.size(); place--) {
            List<Integer> toThere = row.subList(frozen.size(), place + 1);
            int next = place + 1 < row.size() ? row.get(place + 1) : 0;
            long nextDone = next == 0 ? walk(row).home : done(row.subList(0, place + 2));
            int least = Collections.min(toThere.stream().filter(s -> nextByLast(toThere, s, next) == nextDone).toList());
            if (least != row.get(place) || done(row.subList(0, place + 1)) != earliest(toThere, least)) {
                return false;
            }
        }
        return true;
    }

    /** When the last one of these is done at the earliest, with the others before it behind the frozen ones. */
    private long earliest(List<Integer> these, int last) {
        List<Integer> before = new ArrayList<>(these);
        before.remove(Integer.valueOf(last));
        return nextBehind(before, last);
    }

    private long nextByLast(List<Integer> these, int last, int next) {
        return leg(last, earliest(these, last), next);
    }

    /** When the next one is done at the earliest (0: it is home) behind the frozen ones and all of these. */
    private long nextBehind(List<Integer> these, int next) {
        int here = frozen.isEmpty() ? 0 : frozen.get(frozen.size() - 1);
        if (these.isEmpty() && next == 0 && here == 0) {
            return 0;
        }
        boolean[] left = new boolean[21];
        these.forEach(stop -> left[stop] = true);
        return search(here, done(frozen), left, these.size(), next, NEVER);
    }

    /** Looks at every row of what is left but those that are already no sooner than the best so far. */
    private long search(int here, long clock, boolean[] left, int count, int next, long best) {
        if (clock >= best) {
            return best;
        }
        if (count == 0) {
            return Math.min(best, leg(here, clock, next));
        }
        for (int stop = 1; stop <= count(); stop++) {
            if (left[stop]) {
                left[stop] = false;
                best = search(stop, leg(here, clock, stop), left, count - 1, next, best);
                left[stop] = true;
            }
        }
        return best;
    }

    /** When the next one is done (0: it is home) from here; NEVER if that is not good. */
    private long leg(int here, long clock, int next) {
        long coming = clock + way[here][next];
        if (clock == NEVER || isBarred[here][next] || (next > 0 && coming > stops.get(next).until)) {
            return NEVER;
        }
        return next > 0 ? Math.max(coming, stops.get(next).from) + stops.get(next).time : coming;
    }

    long solve(long steps) {
        if (steps < 0 || steps > 100000) {
            return OUTSIDE;
        }
        if (limit >= 0 && loads() > limit) {
            round = null;
            return STATE;
        }
        round = free() <= 11 ? bestGood() : null;
        exact = round != null;
        if (round == null) {
            round = new ArrayList<>(frozen);
            for (int stop : freeStops()) {
                insert(stop);
            }
            exchanges(steps);
        }
        return walk(round).home;
    }

    private int insert(int stop) {
        List<Integer> best = null;
        int place = -1;
        for (int k = frozen.size(); k <= round.size(); k++) {
            List<Integer> one = new ArrayList<>(round);
            one.add(k, stop);
            if (best == null || walk(one).cost() < walk(best).cost()) {
                best = one;
                place = k;
            }
        }
        round = best;
        return place;
    }

    private void exchanges(long steps) {
        long reckoned = 0;
        lastStep = 0;
        boolean again = true;
        while (again) {
            again = false;
            for (int i = frozen.size(); i < round.size() && !again; i++) {
                for (int j = i + 1; j < round.size() && !again; j++) {
                    if (reckoned == steps) {
                        return;
                    }
                    reckoned++;
                    again = exchanged(i, j);
                    lastStep = again ? reckoned : lastStep;
                }
            }
        }
    }

    /** The number of the step by which the latest solve() did its last exchange; 0 if it did none. */
    long lastStep() {
        return lastStep;
    }

    private boolean exchanged(int i, int j) {
        List<Integer> other = new ArrayList<>(round);
        Collections.swap(other, i, j);
        boolean less = walk(other).cost() < walk(round).cost();
        round = less ? other : round;
        return less;
    }

    int at(int i) {
        return round == null || i < 0 || i >= round.size() ? Checks.THROWN : round.get(i);
    }

    boolean exact() {
        return exact;
    }

    int late(int i) {
        List<Integer> late = round == null ? List.of() : walk(round).late;
        return i >= 0 && i < late.size() ? late.get(i) : 0;
    }

    int freeze(int n) {
        if (n < 0 || (round != null && n > round.size())) {
            return UNKNOWN;
        }
        if (round == null) {
            return STATE;
        }
        frozen = new ArrayList<>(round.subList(0, n));
        return n;
    }

    /** The row is taken for the round's first stops, without its being solved. */
    void freezeRow(List<Integer> row) {
        frozen = new ArrayList<>(row);
    }

    int add(int stop) {
        if (!known(stop, 1)) {
            return UNKNOWN;
        }
        if (round == null || frozen.contains(stop)) {
            return STATE;
        }
        exact = false;
        round.remove(Integer.valueOf(stop));
        return insert(stop);
    }

    int arc(int a, int b, int kind) {
        if (!known(a, 0) || !known(b, 0)) {
            return UNKNOWN;
        }
        if ((kind != 0 && kind != 1) || a == b) {
            return OUTSIDE;
        }
        exact = false;
        isBarred[a][b] = kind == 0;
        int all = 0;
        for (boolean[] row : isBarred) {
            for (boolean one : row) {
                all += one ? 1 : 0;
            }
        }
        return all;
    }

    int exchange(int i, int j) {
        if (i < 0 || j < 0 || (round != null && Math.max(i, j) >= round.size())) {
            return UNKNOWN;
        }
        if (round == null || i == j || Math.min(i, j) < frozen.size()) {
            return STATE;
        }
        boolean less = exchanged(i, j);
        exact &= !less;
        return less ? 1 : 0;
    }

    long bound() {
        long sum = 0;
        for (int b = 0; b <= count() && count() > 0; b++) {
            long least = Long.MAX_VALUE;
            for (int a = 0; a <= count(); a++) {
                if (a != b && !isBarred[a][b]) {
                    least = Math.min(least, way[a][b]);
                }
            }
            if (least == Long.MAX_VALUE) {
                return -1;
            }
            sum += least + stops.get(b).time;
        }
        return sum;
    }
}
