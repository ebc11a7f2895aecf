import java.util.Arrays;

/** Rides by a timetable of a week, and walks: which ways there are among stops, and when they end. */
public final class TimedWays {
    public static final int NONE = -1, BAD = -2, FULL = -3;

    private static final int MOST_STOPS = 12;
    private static final int MOST_RIDES = 40;
    private static final int MOST_WALKS = 30;
    private static final int WEEK_DAYS = 7;
    private static final int MOST_DEPARTURES = MOST_RIDES * WEEK_DAYS;
    /** Going back along a way, each stop is come to by ride once and by walk once at most. */
    private static final int MOST_ACTS = 2 * MOST_STOPS;

    private static final int DAY_MINUTES = 1440;
    private static final int LAST_TIME = WEEK_DAYS * DAY_MINUTES - 1;
    private static final int LAST_BY = 20000;
    private static final int ALL_DAYS = (1 << WEEK_DAYS) - 1;
    private static final int LONGEST_CHANGE = 60;
    private static final int LONGEST_RIDE = 1440;
    private static final int LONGEST_WALK = 600;
    private static final int MOST_LATE = 300;
    private static final int LONGEST_SPAN = 600;

    /** Above every end that a way can have, and low enough that sums of several of it stay ints. */
    private static final int NEVER = 1000000;

    private final Network net;
    private final Arrivals arrivals;
    private final Arrivals before;
    private final Span span;
    private final Steps steps;
    private final Acts acts;

    public TimedWays() {
        net = new Network();
        arrivals = new Arrivals();
        before = new Arrivals();
        span = new Span();
        steps = new Steps();
        acts = new Acts();
    }

    public int clear() {
        int were = net.rides.count;
        net.empty();
        steps.count = 0;
        acts.count = 0;
        return were;
    }

    public int stop(int change) {
        if (!within(change, 0, LONGEST_CHANGE)) {
            return BAD;
        }
        if (net.stopCount >= MOST_STOPS) {
            return FULL;
        }
        net.changes[net.stopCount] = change;
        net.stopCount++;
        return net.stopCount - 1;
    }

    public int change(int stop, int minutes) {
        if (!net.hasStop(stop) || !within(minutes, 0, LONGEST_CHANGE)) {
            return BAD;
        }
        int was = net.changes[stop];
        net.changes[stop] = minutes;
        return was;
    }

    public int ride(int from, int to, int minute, int takes, int days) {
        if (!net.hasStops(from, to) || from == to) {
            return BAD;
        }
        if (!within(minute, 0, DAY_MINUTES - 1) || !within(takes, 1, LONGEST_RIDE) || !within(days, 1, ALL_DAYS)) {
            return BAD;
        }
        if (net.rides.count >= MOST_RIDES) {
            return FULL;
        }
        int ride = net.rides.add(from, to, minute, takes, days);
        net.board.putRide(net.rides, ride);
        return ride;
    }

    public int walk(int from, int to, int takes) {
        if (!net.hasStops(from, to) || from == to || !within(takes, 1, LONGEST_WALK)) {
            return BAD;
        }
        if (net.walks.count >= MOST_WALKS) {
            return FULL;
        }
        return net.walks.add(from, to, takes);
    }

    public int late(int ride, int day, int minutes) {
        if (!net.rides.has(ride) || !within(day, 0, WEEK_DAYS - 1) || !within(minutes, NONE, MOST_LATE)) {
            return BAD;
        }
        if (!net.rides.isOnDay(ride, day)) {
            return BAD;
        }
        int departure = ride * WEEK_DAYS + day;
        int was = net.rides.lateness[departure];
        net.board.takeOut(departure);
        net.rides.lateness[departure] = minutes;
        net.board.putIn(net.rides, departure);
        return was;
    }

    public int earliest(int from, int to, int at) {
        if (!net.hasStops(from, to) || !isTime(at)) {
            return BAD;
        }
        arrivals.find(net, from, at);
        return orNone(arrivals.first(to));
    }

    public int latest(int from, int to, int by) {
        if (!net.hasStops(from, to) || !isBy(by)) {
            return BAD;
        }
        return span.latestBeginning(net, from, to, by);
    }

    public int fewest(int from, int to, int at, int by) {
        if (!net.hasStops(from, to) || !isTime(at) || !isBy(by)) {
            return BAD;
        }
        arrivals.begin(net, from, at);
        // A way with the fewest departures comes to no stop twice by ride, so it has no more of them than stops.
        for (int departures = 0; departures <= MOST_STOPS; departures++) {
            if (arrivals.first(to) <= by) {
                return departures;
            }
            before.copy(arrivals);
            arrivals.addOneDeparture(net, before);
        }
        return NONE;
    }

    public int fastest(int from, int to, int first, int last) {
        if (!net.hasStops(from, to) || !isSpan(first, last)) {
            return BAD;
        }
        span.find(net, from, to, first, last);
        return orNone(span.leastMinutes(first, last));
    }

    public int profile(int from, int to, int first, int last) {
        if (!net.hasStops(from, to) || !isSpan(first, last)) {
            return BAD;
        }
        span.find(net, from, to, first, last);
        steps.take(span, first, last);
        return steps.count;
    }

    public int step(int i, int what) {
        if (!within(i, 0, steps.count - 1)) {
            return BAD;
        }
        switch (what) {
            case 0: return steps.times[i];
            case 1: return orNone(steps.ends[i]);
            default: return BAD;
        }
    }

    public int reach(int from, int at, int by) {
        if (!net.hasStop(from) || !isTime(at) || !isBy(by)) {
            return BAD;
        }
        arrivals.find(net, from, at);
        int bits = 0;
        for (int stop = 0; stop < net.stopCount; stop++) {
            if (arrivals.first(stop) <= by) {
                bits |= 1 << stop;
            }
        }
        return bits;
    }

    public int way(int from, int to, int at) {
        if (!net.hasStops(from, to) || !isTime(at)) {
            return BAD;
        }
        arrivals.find(net, from, at);
        if (arrivals.first(to) >= NEVER) {
            return NONE;
        }
        acts.trace(net, arrivals, from, to);
        return acts.count;
    }

    public int act(int i, int what) {
        if (!within(i, 0, acts.count - 1)) {
            return BAD;
        }
        int place = acts.count - 1 - i;
        switch (what) {
            case 0: return acts.days[place] == NONE ? 0 : 1;
            case 1: return acts.numbers[place];
            case 2: return acts.days[place];
            case 3: return acts.begins[place];
            case 4: return acts.ends[place];
            default: return BAD;
        }
    }

    public int next(int stop, int time) {
        if (!net.hasStop(stop) || !isTime(time)) {
            return BAD;
        }
        return net.board.firstFrom(net.rides, stop, time);
    }

    public int told(int ride, int what) {
        if (!net.rides.has(ride)) {
            return BAD;
        }
        switch (what) {
            case 0: return net.rides.from[ride];
            case 1: return net.rides.to[ride];
            case 2: return net.rides.minute[ride];
            case 3: return net.rides.takes[ride];
            case 4: return net.rides.days[ride];
            case 5: return net.rides.goingDays(ride);
            default: return BAD;
        }
    }

    public int of(int what) {
        switch (what) {
            case 0: return net.stopCount;
            case 1: return net.rides.count;
            case 2: return net.walks.count;
            case 3: return net.board.count;
            case 4: return net.board.countLate(net.rides);
            default: return BAD;
        }
    }

    private static boolean within(int number, int least, int most) {
        return number >= least && number <= most;
    }

    private static boolean isTime(int number) {
        return within(number, 0, LAST_TIME);
    }

    private static boolean isBy(int number) {
        return within(number, 0, LAST_BY);
    }

    private static boolean isSpan(int first, int last) {
        return isTime(first) && isTime(last) && within(last - first, 0, LONGEST_SPAN);
    }

    private static int orNone(int number) {
        return number >= NEVER ? NONE : number;
    }

    /** The stops, and all that goes among them. */
    private static final class Network {
        int stopCount;
        final int[] changes;
        final Rides rides;
        final Board board;
        final Walks walks;

        Network() {
            stopCount = 0;
            changes = new int[MOST_STOPS];
            rides = new Rides();
            board = new Board();
            walks = new Walks();
        }

        void empty() {
            stopCount = 0;
            rides.count = 0;
            board.count = 0;
            walks.empty();
        }

        boolean hasStop(int number) {
            return within(number, 0, stopCount - 1);
        }

        boolean hasStops(int from, int to) {
            return hasStop(from) && hasStop(to);
        }

        /** The minutes from an arrival by ride at a stop until a departure from a stop may be taken. */
        int gap(int arrived, int leaving) {
            int walking = walks.atLeastOne(arrived, leaving);
            // A round of walks may be quicker than the change.
            return arrived == leaving ? Math.min(changes[arrived], walking) : walking;
        }
    }

    /** The timetable; a departure's number is seven times its ride's, and its day, so numbers are in order. */
    private static final class Rides {
        int count;
        final int[] from;
        final int[] to;
        final int[] minute;
        final int[] takes;
        final int[] days;
        /** By departures: the minutes, or NONE of one that does not go. */
        final int[] lateness;

        Rides() {
            count = 0;
            from = new int[MOST_RIDES];
            to = new int[MOST_RIDES];
            minute = new int[MOST_RIDES];
            takes = new int[MOST_RIDES];
            days = new int[MOST_RIDES];
            lateness = new int[MOST_DEPARTURES];
        }

        boolean has(int number) {
            return within(number, 0, count - 1);
        }

        boolean isOnDay(int number, int day) {
            return (days[number] >> day & 1) == 1;
        }

        /** Asks for room for one more. */
        int add(int fromStop, int toStop, int atMinute, int minutes, int onDays) {
            int number = count;
            from[number] = fromStop;
            to[number] = toStop;
            minute[number] = atMinute;
            takes[number] = minutes;
            days[number] = onDays;
            for (int day = 0; day < WEEK_DAYS; day++) {
                lateness[number * WEEK_DAYS + day] = isOnDay(number, day) ? 0 : NONE;
            }
            count++;
            return number;
        }

        boolean goes(int departure) {
            return lateness[departure] != NONE;
        }

        /** Of a departure that goes. */
        int leaves(int departure) {
            int day = departure % WEEK_DAYS;
            return day * DAY_MINUTES + minute[departure / WEEK_DAYS] + lateness[departure];
        }

        int goingDays(int number) {
            int bits = 0;
            for (int day = 0; day < WEEK_DAYS; day++) {
                if (goes(number * WEEK_DAYS + day)) {
                    bits |= 1 << day;
                }
            }
            return bits;
        }
    }

    /** The departures that go, by when they leave, then in order. */
    private static final class Board {
        int count;
        final int[] departures;
        final int[] leaves;

        Board() {
            count = 0;
            departures = new int[MOST_DEPARTURES];
            leaves = new int[MOST_DEPARTURES];
        }

        int rideAt(int place) {
            return departures[place] / WEEK_DAYS;
        }

        void putRide(Rides rides, int ride) {
            for (int day = 0; day < WEEK_DAYS; day++) {
                putIn(rides, ride * WEEK_DAYS + day);
            }
        }

        void putIn(Rides rides, int departure) {
            if (!rides.goes(departure) || count >= MOST_DEPARTURES) {
                return;
            }
            int time = rides.leaves(departure);
            int place = count;
            while (place > 0 && isBehind(place - 1, time, departure)) {
                departures[place] = departures[place - 1];
                leaves[place] = leaves[place - 1];
                place--;
            }
            departures[place] = departure;
            leaves[place] = time;
            count++;
        }

        private boolean isBehind(int place, int time, int departure) {
            return leaves[place] > time || leaves[place] == time && departures[place] > departure;
        }

        void takeOut(int departure) {
            int kept = 0;
            for (int place = 0; place < count; place++) {
                if (departures[place] != departure) {
                    departures[kept] = departures[place];
                    leaves[kept] = leaves[place];
                    kept++;
                }
            }
            count = kept;
        }

        int firstFrom(Rides rides, int stop, int time) {
            for (int place = 0; place < count; place++) {
                if (leaves[place] >= time && rides.from[rideAt(place)] == stop) {
                    return departures[place];
                }
            }
            return NONE;
        }

        int countLate(Rides rides) {
            int late = 0;
            for (int place = 0; place < count; place++) {
                if (rides.lateness[departures[place]] > 0) {
                    late++;
                }
            }
            return late;
        }
    }

    /** The walks, and how long the shortest rows of them take. */
    private static final class Walks {
        int count;
        final int[] from;
        final int[] to;
        final int[] takes;
        /** By pairs of stops, one and the same too: the least minutes of a row of one walk or more. */
        private final int[] shortest;

        Walks() {
            count = 0;
            from = new int[MOST_WALKS];
            to = new int[MOST_WALKS];
            takes = new int[MOST_WALKS];
            shortest = new int[MOST_STOPS * MOST_STOPS];
            Arrays.fill(shortest, NEVER);
        }

        void empty() {
            count = 0;
            Arrays.fill(shortest, NEVER);
        }

        /** Asks for room for one more. */
        int add(int fromStop, int toStop, int minutes) {
            from[count] = fromStop;
            to[count] = toStop;
            takes[count] = minutes;
            count++;
            shorten(fromStop, toStop, minutes);
            return count - 1;
        }

        /** A shortest row goes through the new walk once at most. */
        private void shorten(int fromStop, int toStop, int minutes) {
            for (int x = 0; x < MOST_STOPS; x++) {
                int there = anyNumber(x, fromStop) + minutes;
                for (int y = 0; y < MOST_STOPS; y++) {
                    int through = there + anyNumber(toStop, y);
                    shortest[x * MOST_STOPS + y] = Math.min(shortest[x * MOST_STOPS + y], through);
                }
            }
        }

        /** The least minutes of a row of one walk or more. */
        int atLeastOne(int fromStop, int toStop) {
            return shortest[fromStop * MOST_STOPS + toStop];
        }

        /** The least minutes of a row of walks, none too. */
        int anyNumber(int fromStop, int toStop) {
            return fromStop == toStop ? 0 : atLeastOne(fromStop, toStop);
        }
    }

    /** By stops: when the ways from one stop at one time come there first. */
    private static final class Arrivals {
        private final int[] byRide;
        private final int[] byWalk;

        Arrivals() {
            byRide = new int[MOST_STOPS];
            byWalk = new int[MOST_STOPS];
        }

        int first(int stop) {
            return Math.min(byRide[stop], byWalk[stop]);
        }

        boolean isByWalk(int stop, int time) {
            return time >= byWalk[stop];
        }

        void copy(Arrivals other) {
            System.arraycopy(other.byRide, 0, byRide, 0, MOST_STOPS);
            System.arraycopy(other.byWalk, 0, byWalk, 0, MOST_STOPS);
        }

        /** Ways without departures. */
        void begin(Network net, int from, int at) {
            for (int stop = 0; stop < MOST_STOPS; stop++) {
                byRide[stop] = NEVER;
                byWalk[stop] = Math.min(NEVER, at + net.walks.anyNumber(from, stop));
            }
        }

        /** All ways: what a departure needs ends before it leaves, so it has been seen when its turn comes. */
        void find(Network net, int from, int at) {
            begin(net, from, at);
            addOneDeparture(net, this);
        }

        /** With earlier arrivals of ways that go on by one departure more, and walks. */
        void addOneDeparture(Network net, Arrivals earlier) {
            for (int place = 0; place < net.board.count; place++) {
                int ride = net.board.rideAt(place);
                int leaves = net.board.leaves[place];
                if (earlier.mayTake(net, net.rides.from[ride], leaves)) {
                    arrive(net, net.rides.to[ride], leaves + net.rides.takes[ride]);
                }
            }
        }

        boolean mayTake(Network net, int stop, int leaves) {
            return leaves >= byWalk[stop] || leaves >= byRide[stop] + net.changes[stop];
        }

        private void arrive(Network net, int stop, int time) {
            if (time >= byRide[stop]) {
                return;
            }
            byRide[stop] = time;
            for (int other = 0; other < net.stopCount; other++) {
                byWalk[other] = Math.min(byWalk[other], time + net.walks.atLeastOne(stop, other));
            }
        }

        /** The walk with the least number that ends at a stop when by walk is; NONE. */
        int lastWalk(Network net, int stop) {
            for (int walk = 0; walk < net.walks.count; walk++) {
                int end = first(net.walks.from[walk]) + net.walks.takes[walk];
                if (net.walks.to[walk] == stop && end == byWalk[stop]) {
                    return walk;
                }
            }
            return NONE;
        }

        /** The first departure in order that ends at a stop when by ride is; NONE. */
        int lastDeparture(Network net, int stop) {
            for (int ride = 0; ride < net.rides.count; ride++) {
                if (net.rides.to[ride] != stop) {
                    continue;
                }
                for (int day = 0; day < WEEK_DAYS; day++) {
                    if (endsByRide(net, ride, day)) {
                        return ride * WEEK_DAYS + day;
                    }
                }
            }
            return NONE;
        }

        private boolean endsByRide(Network net, int ride, int day) {
            int departure = ride * WEEK_DAYS + day;
            if (!net.rides.goes(departure)) {
                return false;
            }
            int leaves = net.rides.leaves(departure);
            return leaves + net.rides.takes[ride] == byRide[net.rides.to[ride]]
                && mayTake(net, net.rides.from[ride], leaves);
        }
    }

    /** Ways to one stop, found from their ends back, so that one look serves for all times to begin at. */
    private static final class Span {
        /** By places on the board: the first end of ways that begin with that departure. */
        private final int[] onward;
        /** By minutes from the first one: the arrival of ways that begin then. */
        final int[] ends;

        Span() {
            onward = new int[MOST_DEPARTURES];
            ends = new int[LONGEST_SPAN + 1];
        }

        void find(Network net, int from, int to, int first, int last) {
            Arrays.fill(ends, NEVER);
            for (int place = net.board.count - 1; place >= 0 && net.board.leaves[place] >= first; place--) {
                onward[place] = endOf(net, place, to);
                int begins = Math.min(last, latestFor(net, from, place));
                if (begins >= first) {
                    ends[begins - first] = Math.min(ends[begins - first], onward[place]);
                }
            }
            spread(first, last, net.walks.anyNumber(from, to));
        }

        /** Who begins earlier may wait, so an end serves for all earlier times too. */
        private void spread(int first, int last, int walking) {
            int best = NEVER;
            for (int time = last; time >= first; time--) {
                best = Math.min(best, ends[time - first]);
                ends[time - first] = Math.min(best, time + walking);
            }
        }

        int latestBeginning(Network net, int from, int to, int by) {
            int latest = by - net.walks.anyNumber(from, to);
            for (int place = net.board.count - 1; place >= 0; place--) {
                onward[place] = endOf(net, place, to);
                if (onward[place] <= by) {
                    latest = Math.max(latest, latestFor(net, from, place));
                }
            }
            return latest < 0 ? NONE : Math.min(latest, LAST_TIME);
        }

        /** NEVER, if there is no end at any of the times. */
        int leastMinutes(int first, int last) {
            int least = NEVER;
            for (int time = first; time <= last; time++) {
                int end = ends[time - first];
                if (end < NEVER) {
                    least = Math.min(least, end - time);
                }
            }
            return least;
        }

        /** The latest time to begin at a stop, so that the departure at a place may be taken; below 0: none. */
        private static int latestFor(Network net, int from, int place) {
            int stop = net.rides.from[net.board.rideAt(place)];
            return net.board.leaves[place] - net.walks.anyNumber(from, stop);
        }

        /** Asks for all later places in onward. */
        private int endOf(Network net, int place, int to) {
            int ride = net.board.rideAt(place);
            int stop = net.rides.to[ride];
            int arrives = net.board.leaves[place] + net.rides.takes[ride];
            int best = Math.min(NEVER, arrives + net.walks.anyNumber(stop, to));
            for (int i = place + 1; i < net.board.count && net.board.leaves[i] < best; i++) {
                if (onward[i] < best && mayFollow(net, i, stop, arrives)) {
                    best = onward[i];
                }
            }
            return best;
        }

        /** Whether the departure at a place may be taken, with walks before it or not, after an arrival by ride. */
        private static boolean mayFollow(Network net, int place, int stop, int arrives) {
            int leaving = net.rides.from[net.board.rideAt(place)];
            return net.board.leaves[place] >= arrives + net.gap(stop, leaving);
        }
    }

    /** The steps of the last profile. */
    private static final class Steps {
        int count;
        final int[] times;
        final int[] ends;

        Steps() {
            count = 0;
            times = new int[LONGEST_SPAN + 1];
            ends = new int[LONGEST_SPAN + 1];
        }

        void take(Span span, int first, int last) {
            count = 0;
            for (int i = 0; i <= last - first; i++) {
                if (i == 0 || span.ends[i] != span.ends[i - 1]) {
                    times[count] = first + i;
                    ends[count] = span.ends[i];
                    count++;
                }
            }
        }
    }

    /** The acts of the way that was told last, the last one first. */
    private static final class Acts {
        int count;
        final int[] numbers;
        /** NONE of a walk. */
        final int[] days;
        final int[] begins;
        final int[] ends;

        Acts() {
            count = 0;
            numbers = new int[MOST_ACTS];
            days = new int[MOST_ACTS];
            begins = new int[MOST_ACTS];
            ends = new int[MOST_ACTS];
        }

        void trace(Network net, Arrivals arrivals, int from, int to) {
            count = 0;
            int stop = to;
            boolean byWalk = arrivals.isByWalk(to, arrivals.first(to));
            for (int i = 0; i < MOST_ACTS && !(byWalk && stop == from); i++) {
                stop = byWalk ? addWalk(net, arrivals, stop) : addDeparture(net, arrivals, stop);
                if (stop == NONE) {
                    return;
                }
                byWalk = arrivals.isByWalk(stop, begins[count - 1]);
            }
        }

        /** Where it begins. */
        private int addWalk(Network net, Arrivals arrivals, int stop) {
            int walk = arrivals.lastWalk(net, stop);
            if (walk == NONE) {
                return NONE;
            }
            int start = net.walks.from[walk];
            put(walk, NONE, arrivals.first(start), net.walks.takes[walk]);
            return start;
        }

        /** Where it begins. */
        private int addDeparture(Network net, Arrivals arrivals, int stop) {
            int departure = arrivals.lastDeparture(net, stop);
            if (departure == NONE) {
                return NONE;
            }
            int ride = departure / WEEK_DAYS;
            put(ride, departure % WEEK_DAYS, net.rides.leaves(departure), net.rides.takes[ride]);
            return net.rides.from[ride];
        }

        private void put(int number, int day, int begin, int takes) {
            numbers[count] = number;
            days[count] = day;
            begins[count] = begin;
            ends[count] = begin + takes;
            count++;
        }
    }
}
