import java.util.ArrayList;
import java.util.Arrays;
import java.util.Collections;
import java.util.List;

/**
 * The document's words again, as slowly and plainly as they can be said, to compare the program with.
 * Every state (stop, by ride or by walk, time) that some way ends in is found, minute by minute; no
 * way is left out because another one is better.
 */
final class Reference {
    static final int NONE = -1, BAD = -2, FULL = -3;
    private static final int HORIZON = 20601;

    private final List<Integer> changes = new ArrayList<>();
    private final List<int[]> rides = new ArrayList<>();
    private final List<int[]> lateness = new ArrayList<>();
    private final List<int[]> walks = new ArrayList<>();
    private List<int[]> steps = new ArrayList<>();
    private List<int[]> acts = new ArrayList<>();

    /** By stops: least departures of a way that ends at a minute, by ride and by walk; NONE if no way does. */
    private static final class Ends {
        final int[][] byRide;
        final int[][] byWalk;

        Ends(int stops) {
            byRide = new int[stops][HORIZON];
            byWalk = new int[stops][HORIZON];
            for (int s = 0; s < stops; s++) {
                Arrays.fill(byRide[s], NONE);
                Arrays.fill(byWalk[s], NONE);
            }
        }

        static void add(int[] row, int time, int departures) {
            if (time < HORIZON && (row[time] == NONE || row[time] > departures)) {
                row[time] = departures;
            }
        }

        static int first(int[] row) {
            for (int t = 0; t < HORIZON; t++) {
                if (row[t] != NONE) {
                    return t;
                }
            }
            return HORIZON;
        }
    }

    int clear() {
        int were = rides.size();
        changes.clear();
        rides.clear();
        lateness.clear();
        walks.clear();
        steps = new ArrayList<>();
        acts = new ArrayList<>();
        return were;
    }

    int stop(int change) {
        if (change < 0 || change > 60) return BAD;
        if (changes.size() == 12) return FULL;
        changes.add(change);
        return changes.size() - 1;
    }

    int change(int stop, int minutes) {
        if (noStop(stop) || minutes < 0 || minutes > 60) return BAD;
        return changes.set(stop, minutes);
    }

    int ride(int from, int to, int minute, int takes, int days) {
        if (noStop(from) || noStop(to) || from == to) return BAD;
        if (minute < 0 || minute > 1439 || takes < 1 || takes > 1440 || days < 1 || days > 127) return BAD;
        if (rides.size() == 40) return FULL;
        rides.add(new int[] {from, to, minute, takes, days});
        lateness.add(new int[7]);
        return rides.size() - 1;
    }

    int walk(int from, int to, int takes) {
        if (noStop(from) || noStop(to) || from == to || takes < 1 || takes > 600) return BAD;
        if (walks.size() == 30) return FULL;
        walks.add(new int[] {from, to, takes});
        return walks.size() - 1;
    }

    int late(int ride, int day, int minutes) {
        if (noRide(ride) || day < 0 || day > 6 || minutes < -1 || minutes > 300) return BAD;
        if ((rides.get(ride)[4] & 1 << day) == 0) return BAD;
        int was = lateness.get(ride)[day];
        lateness.get(ride)[day] = minutes;
        return was;
    }

    int earliest(int from, int to, int at) {
        if (noStop(from) || noStop(to) || noTime(at)) return BAD;
        Ends ends = endsOf(from, at);
        int arrival = Math.min(Ends.first(ends.byRide[to]), Ends.first(ends.byWalk[to]));
        return arrival == HORIZON ? NONE : arrival;
    }

    /** Looks at every time, so it is for small networks. */
    int latest(int from, int to, int by) {
        if (noStop(from) || noStop(to) || noBy(by)) return BAD;
        for (int t = 10079; t >= 0; t--) {
            int arrival = quickEarliest(from, to, t);
            if (arrival != NONE && arrival <= by) return t;
        }
        return NONE;
    }

    int fewest(int from, int to, int at, int by) {
        if (noStop(from) || noStop(to) || noTime(at) || noBy(by)) return BAD;
        Ends ends = endsOf(from, at);
        int fewest = Integer.MAX_VALUE;
        for (int t = at; t <= by; t++) {
            if (ends.byRide[to][t] != NONE) fewest = Math.min(fewest, ends.byRide[to][t]);
            if (ends.byWalk[to][t] != NONE) fewest = Math.min(fewest, ends.byWalk[to][t]);
        }
        return fewest == Integer.MAX_VALUE ? NONE : fewest;
    }

    int fastest(int from, int to, int first, int last) {
        if (noStop(from) || noStop(to) || noSpan(first, last)) return BAD;
        int least = NONE;
        for (int t = first; t <= last; t++) {
            int arrival = quickEarliest(from, to, t);
            if (arrival != NONE && (least == NONE || arrival - t < least)) least = arrival - t;
        }
        return least;
    }

    int profile(int from, int to, int first, int last) {
        if (noStop(from) || noStop(to) || noSpan(first, last)) return BAD;
        steps = new ArrayList<>();
        int was = 0;
        for (int t = first; t <= last; t++) {
            int arrival = quickEarliest(from, to, t);
            if (t == first || arrival != was) steps.add(new int[] {t, arrival});
            was = arrival;
        }
        return steps.size();
    }

    int step(int i, int what) {
        if (i < 0 || i >= steps.size() || what < 0 || what > 1) return BAD;
        return steps.get(i)[what];
    }

    int reach(int from, int at, int by) {
        if (noStop(from) || noTime(at) || noBy(by)) return BAD;
        Ends ends = endsOf(from, at);
        int bits = 0;
        for (int s = 0; s < changes.size(); s++) {
            if (Ends.first(ends.byRide[s]) <= by || Ends.first(ends.byWalk[s]) <= by) bits |= 1 << s;
        }
        return bits;
    }

    int way(int from, int to, int at) {
        if (noStop(from) || noStop(to) || noTime(at)) return BAD;
        Ends ends = endsOf(from, at);
        int[] r = new int[changes.size()];
        int[] w = new int[changes.size()];
        for (int s = 0; s < changes.size(); s++) {
            r[s] = Ends.first(ends.byRide[s]);
            w[s] = Ends.first(ends.byWalk[s]);
        }
        if (Math.min(r[to], w[to]) == HORIZON) return NONE;
        acts = new ArrayList<>();
        traceBack(r, w, from, at, to, w[to] <= r[to]);
        Collections.reverse(acts);
        return acts.size();
    }

    private void traceBack(int[] r, int[] w, int f, int t, int x, boolean byWalk) {
        if (byWalk && x == f && w[f] == t) return;
        if (byWalk) {
            for (int n = 0; n < walks.size(); n++) {
                int[] walk = walks.get(n);
                int y = walk[0];
                int arrival = Math.min(r[y], w[y]);
                if (walk[1] == x && arrival + walk[2] == w[x]) {
                    acts.add(new int[] {0, n, NONE, arrival, w[x]});
                    traceBack(r, w, f, t, y, w[y] == arrival);
                    return;
                }
            }
            throw new IllegalStateException("no walk");
        }
        for (int n = 0; n < rides.size(); n++) {
            for (int day = 0; day < 7; day++) {
                int y = rides.get(n)[0];
                if (!goes(n, day) || rides.get(n)[1] != x || leaves(n, day) + rides.get(n)[3] != r[x]) continue;
                int l = leaves(n, day);
                if (l < w[y] && l < r[y] + changes.get(y)) continue;
                acts.add(new int[] {1, n, day, l, r[x]});
                traceBack(r, w, f, t, y, l >= w[y]);
                return;
            }
        }
        throw new IllegalStateException("no departure");
    }

    int act(int i, int what) {
        if (i < 0 || i >= acts.size() || what < 0 || what > 4) return BAD;
        return acts.get(i)[what];
    }

    int next(int stop, int time) {
        if (noStop(stop) || noTime(time)) return BAD;
        int best = NONE;
        int bestLeaves = Integer.MAX_VALUE;
        for (int n = 0; n < rides.size(); n++) {
            for (int day = 0; day < 7; day++) {
                if (rides.get(n)[0] == stop && goes(n, day) && leaves(n, day) >= time && leaves(n, day) < bestLeaves) {
                    best = n * 7 + day;
                    bestLeaves = leaves(n, day);
                }
            }
        }
        return best;
    }

    int told(int ride, int what) {
        if (noRide(ride) || what < 0 || what > 5) return BAD;
        if (what < 5) return rides.get(ride)[what];
        int bits = 0;
        for (int day = 0; day < 7; day++) {
            if (goes(ride, day)) bits |= 1 << day;
        }
        return bits;
    }

    int of(int what) {
        if (what == 0) return changes.size();
        if (what == 1) return rides.size();
        if (what == 2) return walks.size();
        if (what != 3 && what != 4) return BAD;
        int count = 0;
        for (int n = 0; n < rides.size(); n++) {
            for (int day = 0; day < 7; day++) {
                if (goes(n, day) && (what == 3 || lateness.get(n)[day] >= 1)) count++;
            }
        }
        return count;
    }

    private boolean noStop(int n) {
        return n < 0 || n >= changes.size();
    }

    private boolean noRide(int n) {
        return n < 0 || n >= rides.size();
    }

    private static boolean noTime(int n) {
        return n < 0 || n > 10079;
    }

    private static boolean noBy(int n) {
        return n < 0 || n > 20000;
    }

    private static boolean noSpan(int first, int last) {
        return noTime(first) || noTime(last) || first > last || last - first > 600;
    }

    private boolean goes(int ride, int day) {
        return (rides.get(ride)[4] & 1 << day) != 0 && lateness.get(ride)[day] != NONE;
    }

    private int leaves(int ride, int day) {
        return 1440 * day + rides.get(ride)[2] + lateness.get(ride)[day];
    }

    /** All ends of all ways, in the order of time: whatever leads to an end has begun earlier. */
    private Ends endsOf(int from, int at) {
        List<List<int[]>> leaving = leavingByMinute();
        Ends ends = new Ends(changes.size());
        ends.byWalk[from][at] = 0;
        for (int time = at; time < HORIZON; time++) {
            for (int[] walk : walks) {
                int rode = ends.byRide[walk[0]][time];
                int walked = ends.byWalk[walk[0]][time];
                if (rode != NONE) Ends.add(ends.byWalk[walk[1]], time + walk[2], rode);
                if (walked != NONE) Ends.add(ends.byWalk[walk[1]], time + walk[2], walked);
            }
            for (int[] ride : leaving.get(time)) {
                int departures = leastBefore(ends, ride[0], at, time);
                if (departures != NONE) Ends.add(ends.byRide[ride[1]], time + ride[3], departures + 1);
            }
        }
        return ends;
    }

    private List<List<int[]>> leavingByMinute() {
        List<List<int[]>> leaving = new ArrayList<>(Collections.nCopies(HORIZON, Collections.<int[]>emptyList()));
        for (int n = 0; n < rides.size(); n++) {
            for (int day = 0; day < 7; day++) {
                if (!goes(n, day)) continue;
                List<int[]> there = new ArrayList<>(leaving.get(leaves(n, day)));
                there.add(rides.get(n));
                leaving.set(leaves(n, day), there);
            }
        }
        return leaving;
    }

    /** The least departures of a way after which one that leaves a stop at a time may be taken. */
    private int leastBefore(Ends ends, int stop, int at, int time) {
        int least = Integer.MAX_VALUE;
        for (int t = at; t <= time; t++) {
            if (ends.byWalk[stop][t] != NONE) least = Math.min(least, ends.byWalk[stop][t]);
            if (t + changes.get(stop) > time) continue;
            if (ends.byRide[stop][t] != NONE) least = Math.min(least, ends.byRide[stop][t]);
        }
        return least == Integer.MAX_VALUE ? NONE : least;
    }

    /** As earliest(), by making arrivals earlier until none can be; the tests hold it against earliest(). */
    int quickEarliest(int from, int to, int at) {
        int[] r = new int[changes.size()];
        int[] w = new int[changes.size()];
        Arrays.fill(r, HORIZON);
        Arrays.fill(w, HORIZON);
        w[from] = at;
        boolean again = true;
        while (again) {
            again = false;
            for (int[] walk : walks) {
                int end = Math.min(r[walk[0]], w[walk[0]]) + walk[2];
                if (end < w[walk[1]]) {
                    w[walk[1]] = end;
                    again = true;
                }
            }
            for (int n = 0; n < rides.size(); n++) {
                int y = rides.get(n)[0];
                int x = rides.get(n)[1];
                for (int day = 0; day < 7; day++) {
                    if (!goes(n, day)) continue;
                    int l = leaves(n, day);
                    boolean may = l >= w[y] || l >= r[y] + changes.get(y);
                    if (may && l + rides.get(n)[3] < r[x]) {
                        r[x] = l + rides.get(n)[3];
                        again = true;
                    }
                }
            }
        }
        int arrival = Math.min(r[to], w[to]);
        return arrival >= HORIZON ? NONE : arrival;
    }
}
