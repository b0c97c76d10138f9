import java.util.ArrayList;
import java.util.HashSet;
import java.util.List;
import java.util.Set;

/** A slow second RoundSearch: it looks at every row of the free stops, as the document's words say it. */
final class Oracle {
    private static final int UNKNOWN = -11;
    private static final int OUTSIDE = -12;
    private static final int STATE = -13;
    private static final int ROOM = -14;
    static final int MOST_LOOKED_AT = 6;

    private record Stop(long time, long from, long until) {
    }

    private record Walk(long home, List<Integer> late, int barred) {
        boolean good() {
            return late.isEmpty() && barred == 0;
        }

        long cost() {
            return home + 1000000000L * (late.size() + barred);
        }
    }

    private final List<Stop> stops = new ArrayList<>(List.of(new Stop(0, 0, 0)));
    private final long[][] way = new long[21][21];
    private final Set<List<Integer>> barred = new HashSet<>();
    private final int[] load = new int[21];
    private int limit = -1;
    private List<Integer> round = null;
    private List<Integer> frozen = new ArrayList<>();
    private boolean exact = false;

    Oracle() {
        for (long[] row : way) {
            java.util.Arrays.fill(row, 1000);
        }
    }

    int count() {
        return stops.size() - 1;
    }

    int free() {
        return count() - frozen.size();
    }

    private boolean known(int point, int least) {
        return point >= least && point <= count();
    }

    int stop(long time, long from, long until) {
        if (time < 0 || time > 100000 || from < 0 || from > until || until > 1000000) {
            return OUTSIDE;
        }
        if (count() == 20) {
            return ROOM;
        }
        stops.add(new Stop(time, from, until));
        round = null;
        exact = false;
        return count();
    }

    void way(int a, int b, long t) {
        if (known(a, 0) && known(b, 0) && a != b && t >= 0 && t <= 100000) {
            way[a][b] = t;
            exact = false;
        }
    }

    int load(int stop, int n) {
        if (!known(stop, 1)) {
            return UNKNOWN;
        }
        if (n < 0 || n > 1000) {
            return OUTSIDE;
        }
        load[stop] = n;
        return loads();
    }

    private int loads() {
        return java.util.Arrays.stream(load).sum();
    }

    int limit(int n) {
        if (n < -1) {
            return OUTSIDE;
        }
        limit = n;
        return n < 0 ? 0 : 1;
    }

    private Walk walk(List<Integer> row) {
        long clock = 0;
        int here = 0;
        int bars = 0;
        List<Integer> late = new ArrayList<>();
        for (int next : row) {
            Stop s = stops.get(next);
            bars += barred.contains(List.of(here, next)) ? 1 : 0;
            clock += way[here][next];
            if (clock > s.until) {
                late.add(next);
            }
            clock = Math.max(clock, s.from) + s.time;
            here = next;
        }
        if (!row.isEmpty()) {
            bars += barred.contains(List.of(here, 0)) ? 1 : 0;
            clock += way[here][0];
        }
        return new Walk(clock, late, bars);
    }

    /** When the last of the row is done; -1 if it is not good up to there. */
    private long done(List<Integer> row) {
        long clock = 0;
        int here = 0;
        for (int next : row) {
            Stop s = stops.get(next);
            clock += way[here][next];
            if (clock > s.until || barred.contains(List.of(here, next))) {
                return -1;
            }
            clock = Math.max(clock, s.from) + s.time;
            here = next;
        }
        return clock;
    }

    private static void rows(List<Integer> begin, List<Integer> rest, List<List<Integer>> into) {
        if (rest.isEmpty()) {
            into.add(begin);
        }
        for (int k = 0; k < rest.size(); k++) {
            List<Integer> longer = new ArrayList<>(begin);
            longer.add(rest.get(k));
            List<Integer> fewer = new ArrayList<>(rest);
            fewer.remove(k);
            rows(longer, fewer, into);
        }
    }

    private List<Integer> freeStops() {
        List<Integer> free = new ArrayList<>();
        for (int stop = 1; stop <= count(); stop++) {
            if (!frozen.contains(stop)) {
                free.add(stop);
            }
        }
        return free;
    }

    private List<Integer> bestGood() {
        List<List<Integer>> all = new ArrayList<>();
        rows(new ArrayList<>(frozen), freeStops(), all);
        all.removeIf(row -> !walk(row).good());
        long first = all.stream().mapToLong(row -> walk(row).home).min().orElse(-1);
        all.removeIf(row -> walk(row).home != first);
        all.removeIf(row -> !leastFromBehind(row));
        return all.isEmpty() ? null : all.get(0);
    }

    /**
     * Whether at each place all to there are done as early as they can be, and there is the least stop with
     * which the next one is done as early as in this round. Without the first, two rounds could be meant
     * where a wait hides that one of them comes to it later.
     */
    private boolean leastFromBehind(List<Integer> row) {
        for (int place = row.size() - 1; place >= frozen.size(); place--) {
            List<Integer> toThere = row.subList(0, place + 1);
            if (done(toThere) != done(earliest(toThere, row.get(place)))) {
                return false;
            }
            long next = place + 1 < row.size() ? done(row.subList(0, place + 2)) : walk(row).home;
            for (int stop : row.subList(frozen.size(), place + 1)) {
                if (stop < row.get(place) && nextBehind(row, place, stop) == next) {
                    return false;
                }
            }
        }
        return true;
    }

    /** The row of the same stops with this one last that is done first; null if none is good. */
    private List<Integer> earliest(List<Integer> row, int last) {
        List<Integer> before = new ArrayList<>(row.subList(frozen.size(), row.size()));
        before.remove(Integer.valueOf(last));
        List<List<Integer>> all = new ArrayList<>();
        rows(new ArrayList<>(frozen), before, all);
        List<Integer> best = null;
        for (List<Integer> one : all) {
            List<Integer> whole = new ArrayList<>(one);
            whole.add(last);
            if (done(whole) >= 0 && (best == null || done(whole) < done(best))) {
                best = whole;
            }
        }
        return best;
    }

    /** When the next one behind a place is done (or it is home) if another stop is last to there; -1 if not good. */
    private long nextBehind(List<Integer> row, int place, int stop) {
        List<Integer> best = earliest(row.subList(0, place + 1), stop);
        if (best == null) {
            return -1;
        }
        if (place + 1 < row.size()) {
            best.add(row.get(place + 1));
            return done(best);
        }
        return barred.contains(List.of(stop, 0)) ? -1 : done(best) + way[stop][0];
    }

    long solve(long steps) {
        if (steps < 0 || steps > 100000) {
            return OUTSIDE;
        }
        if (limit >= 0 && loads() > limit) {
            round = null;
            return STATE;
        }
        round = free() <= 11 ? bestGood() : null;
        exact = round != null;
        if (round == null) {
            round = new ArrayList<>(frozen);
            for (int stop : freeStops()) {
                insert(stop);
            }
            exchanges(steps);
        }
        return walk(round).home;
    }

    private int insert(int stop) {
        List<Integer> best = null;
        int place = -1;
        for (int k = frozen.size(); k <= round.size(); k++) {
            List<Integer> one = new ArrayList<>(round);
            one.add(k, stop);
            if (best == null || walk(one).cost() < walk(best).cost()) {
                best = one;
                place = k;
            }
        }
        round = best;
        return place;
    }

    private void exchanges(long steps) {
        long reckoned = 0;
        boolean again = true;
        while (again) {
            again = false;
            for (int i = frozen.size(); i < round.size() && !again; i++) {
                for (int j = i + 1; j < round.size() && !again; j++) {
                    if (reckoned == steps) {
                        return;
                    }
                    reckoned++;
                    again = exchanged(i, j);
                }
            }
        }
    }

    private boolean exchanged(int i, int j) {
        List<Integer> other = new ArrayList<>(round);
        java.util.Collections.swap(other, i, j);
        boolean less = walk(other).cost() < walk(round).cost();
        round = less ? other : round;
        return less;
    }

    int at(int i) {
        return round == null || i < 0 || i >= round.size() ? Checks.THROWN : round.get(i);
    }

    boolean exact() {
        return exact;
    }

    int late(int i) {
        List<Integer> late = round == null ? List.of() : walk(round).late;
        return i >= 0 && i < late.size() ? late.get(i) : 0;
    }

    int freeze(int n) {
        if (n < 0 || (round != null && n > round.size())) {
            return UNKNOWN;
        }
        if (round == null) {
            return STATE;
        }
        frozen = new ArrayList<>(round.subList(0, n));
        return n;
    }

    int add(int stop) {
        if (!known(stop, 1)) {
            return UNKNOWN;
        }
        if (round == null || frozen.contains(stop)) {
            return STATE;
        }
        exact = false;
        round.remove(Integer.valueOf(stop));
        return insert(stop);
    }

    int arc(int a, int b, int kind) {
        if (!known(a, 0) || !known(b, 0)) {
            return UNKNOWN;
        }
        if ((kind != 0 && kind != 1) || a == b) {
            return OUTSIDE;
        }
        exact = false;
        if (kind == 0) {
            barred.add(List.of(a, b));
        } else {
            barred.remove(List.of(a, b));
        }
        return barred.size();
    }

    int exchange(int i, int j) {
        if (i < 0 || j < 0 || (round != null && Math.max(i, j) >= round.size())) {
            return UNKNOWN;
        }
        if (round == null || i == j || Math.min(i, j) < frozen.size()) {
            return STATE;
        }
        boolean less = exchanged(i, j);
        exact &= !less;
        return less ? 1 : 0;
    }

    long bound() {
        long sum = 0;
        for (int b = 0; b <= count() && count() > 0; b++) {
            long least = Long.MAX_VALUE;
            for (int a = 0; a <= count(); a++) {
                if (a != b && !barred.contains(List.of(a, b))) {
                    least = Math.min(least, way[a][b]);
                }
            }
            if (least == Long.MAX_VALUE) {
                return -1;
            }
            sum += least + stops.get(b).time;
        }
        return sum;
    }
}
