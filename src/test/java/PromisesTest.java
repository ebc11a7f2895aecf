/** Each promise by hand: ordinary inputs, the edges that the document names, and wrong inputs. */
public final class PromisesTest {
    private static final int NONE = TimedWays.NONE, BAD = TimedWays.BAD, FULL = TimedWays.FULL;
    private static final int LOW = Integer.MIN_VALUE, HIGH = Integer.MAX_VALUE;
    private static final Due DUE = new Due("PromisesTest");

    private static TimedWays withStops(int... changes) {
        TimedWays x = new TimedWays();
        for (int change : changes) {
            x.stop(change);
        }
        return x;
    }

    /** Acts as "kind number day begins ends". */
    private static void acts(String call, TimedWays x, int[]... want) {
        for (int i = 0; i < want.length; i++) {
            for (int what = 0; what < 5; what++) {
                DUE.is(call + ", act(" + i + ", " + what + ")", x.act(i, what), want[i][what]);
            }
        }
        DUE.is(call + ", the act behind the last", x.act(want.length, 0), BAD);
    }

    private static void steps(String call, TimedWays x, int[]... want) {
        for (int i = 0; i < want.length; i++) {
            DUE.is(call + ", step(" + i + ", 0)", x.step(i, 0), want[i][0]);
            DUE.is(call + ", step(" + i + ", 1)", x.step(i, 1), want[i][1]);
        }
        DUE.is(call + ", the step behind the last", x.step(want.length, 0), BAD);
    }

    private static void counts(String call, TimedWays x, int... want) {
        for (int what = 0; what < want.length; what++) {
            DUE.is(call + ", of(" + what + ")", x.of(what), want[what]);
        }
    }

    private static void isEmpty(String call, TimedWays x) {
        counts(call, x, 0, 0, 0, 0, 0);
        DUE.is(call + ", act", x.act(0, 0), BAD);
        DUE.is(call + ", step", x.step(0, 0), BAD);
        DUE.is(call + ", told", x.told(0, 0), BAD);
        DUE.is(call + ", earliest", x.earliest(0, 0, 0), BAD);
        DUE.is(call + ", reach", x.reach(0, 0, 0), BAD);
        DUE.is(call + ", next", x.next(0, 0), BAD);
    }

    private static void promise1NewObject() {
        isEmpty("new", new TimedWays());
        DUE.is("NONE", TimedWays.NONE, -1);
        DUE.is("BAD", TimedWays.BAD, -2);
        DUE.is("FULL", TimedWays.FULL, -3);
    }

    private static void promise2Clear() {
        TimedWays x = withStops(7, 7);
        DUE.is("clear without rides", new TimedWays().clear(), 0);
        x.ride(0, 1, 5, 5, 127);
        x.ride(1, 0, 5, 5, 127);
        x.walk(0, 1, 1);
        x.late(0, 0, 9);
        x.way(0, 1, 0);
        x.profile(0, 1, 0, 9);
        DUE.is("clear", x.clear(), 2);
        isEmpty("clear", x);
        DUE.is("clear again", x.clear(), 0);
        x.stop(0);
        x.stop(0);
        DUE.is("no walk is left", x.earliest(0, 1, 0), NONE);
        DUE.is("ride after clear", x.ride(0, 1, 5, 5, 127), 0);
        DUE.is("a ride is on time after clear", x.late(0, 0, 0), 0);
        DUE.is("earliest after clear", x.earliest(0, 1, 0), 10);
        DUE.is("a change is new after clear", x.change(0, 0), 0);
    }

    private static void promise3Stop() {
        TimedWays x = new TimedWays();
        DUE.is("stop(-1)", x.stop(-1), BAD);
        DUE.is("stop(61)", x.stop(61), BAD);
        DUE.is("stop(LOW)", x.stop(LOW), BAD);
        DUE.is("stop(HIGH)", x.stop(HIGH), BAD);
        for (int i = 0; i < 12; i++) {
            DUE.is("stop " + i, x.stop(i % 2 == 0 ? 0 : 60), i);
        }
        DUE.is("stop 12", x.stop(0), FULL);
        DUE.is("BAD before FULL", x.stop(61), BAD);
        DUE.is("of(0)", x.of(0), 12);
        DUE.is("change of 10", x.change(10, 5), 0);
        DUE.is("change of 11", x.change(11, 5), 60);
    }

    private static void promise4Change() {
        TimedWays x = withStops(5, 0, 0);
        DUE.is("change", x.change(0, 60), 5);
        DUE.is("change back", x.change(0, 0), 60);
        DUE.is("what it was", x.change(0, 0), 0);
        DUE.is("change of another", x.change(1, 7), 0);
        DUE.is("no such stop", x.change(3, 1), BAD);
        DUE.is("stop -1", x.change(-1, 1), BAD);
        DUE.is("-1 minutes", x.change(0, -1), BAD);
        DUE.is("61 minutes", x.change(0, 61), BAD);
        DUE.is("a refusal changes nothing", x.change(0, 0), 0);
        x.ride(0, 1, 0, 10, 1);
        x.ride(1, 2, 17, 10, 1);
        DUE.is("a change that is just long enough", x.earliest(0, 2, 0), 27);
        x.change(1, 8);
        DUE.is("a change that is too long", x.earliest(0, 2, 0), NONE);
        DUE.is("none at the beginning", x.earliest(1, 2, 17), 27);
    }

    private static void promise5Ride() {
        TimedWays x = withStops(0, 0);
        int[][] bad = {
            {0, 0, 1, 1, 1}, {-1, 1, 1, 1, 1}, {0, 2, 1, 1, 1}, {2, 0, 1, 1, 1}, {0, -1, 1, 1, 1}, {0, 1, -1, 1, 1},
            {0, 1, 1440, 1, 1}, {0, 1, 1, 0, 1}, {0, 1, 1, 1441, 1}, {0, 1, 1, 1, 0}, {0, 1, 1, 1, 128}, {0, 1, 1, 1, -1},
            {LOW, HIGH, LOW, HIGH, LOW}
        };
        for (int i = 0; i < bad.length; i++) {
            DUE.is("bad ride " + i, x.ride(bad[i][0], bad[i][1], bad[i][2], bad[i][3], bad[i][4]), BAD);
        }
        counts("refused rides", x, 2, 0, 0, 0, 0);
        DUE.is("least numbers", x.ride(0, 1, 0, 1, 1), 0);
        DUE.is("greatest numbers", x.ride(1, 0, 1439, 1440, 127), 1);
        DUE.is("on time", x.late(1, 6, 0), 0);
        DUE.is("least ride", x.earliest(0, 1, 0), 1);
        for (int i = 2; i < 40; i++) {
            DUE.is("ride " + i, x.ride(0, 1, 2, 2, 127), i);
        }
        DUE.is("ride 40", x.ride(0, 1, 2, 2, 127), FULL);
        DUE.is("BAD before FULL", x.ride(1, 1, 2, 2, 127), BAD);
        counts("all rides", x, 2, 40, 0, 39 * 7 + 1, 0);
    }

    private static void promise6Walk() {
        TimedWays x = withStops(0, 0);
        int[][] bad = {{0, 0, 1}, {-1, 1, 1}, {2, 1, 1}, {0, 2, 1}, {0, -1, 1}, {0, 1, 0}, {0, 1, 601}, {HIGH, LOW, HIGH}};
        for (int i = 0; i < bad.length; i++) {
            DUE.is("bad walk " + i, x.walk(bad[i][0], bad[i][1], bad[i][2]), BAD);
        }
        DUE.is("refused walks", x.of(2), 0);
        DUE.is("the longest walk", x.walk(0, 1, 600), 0);
        DUE.is("at any time", x.earliest(0, 1, 10079), 10679);
        DUE.is("not back", x.earliest(1, 0, 0), NONE);
        DUE.is("the shortest walk", x.walk(0, 1, 1), 1);
        DUE.is("the shorter one", x.earliest(0, 1, 5), 6);
        for (int i = 2; i < 30; i++) {
            DUE.is("walk " + i, x.walk(0, 1, 9), i);
        }
        DUE.is("walk 30", x.walk(0, 1, 9), FULL);
        DUE.is("BAD before FULL", x.walk(0, 1, 0), BAD);
        DUE.is("of(2)", x.of(2), 30);
    }

    private static void promise7Late() {
        TimedWays x = withStops(0, 0);
        x.ride(0, 1, 100, 10, 1 | 1 << 3);
        DUE.is("late", x.late(0, 0, 300), 0);
        DUE.is("late, leaving and arriving", x.earliest(0, 1, 400), 410);
        DUE.is("another day is on time", x.earliest(0, 1, 401), 3 * 1440 + 110);
        DUE.is("does not go", x.late(0, 0, NONE), 300);
        DUE.is("of(3)", x.of(3), 1);
        DUE.is("the next one that goes", x.earliest(0, 1, 0), 3 * 1440 + 110);
        DUE.is("goes again", x.late(0, 0, 0), NONE);
        DUE.is("on time", x.earliest(0, 1, 0), 110);
        int[][] bad = {
            {0, 1, 0}, {0, 1, NONE}, {0, -1, 0}, {0, 7, 0}, {1, 0, 0}, {-1, 0, 0}, {0, 0, -2}, {0, 0, 301}, {0, 35, 0},
            {0, 32, 0}, {LOW, HIGH, LOW}
        };
        for (int i = 0; i < bad.length; i++) {
            DUE.is("bad late " + i, x.late(bad[i][0], bad[i][1], bad[i][2]), BAD);
        }
        counts("refused lateness", x, 2, 1, 0, 2, 0);
    }

    private static void promise8Earliest() {
        TimedWays x = withStops(0, 30, 0);
        x.ride(0, 1, 60, 60, 3);
        x.ride(1, 2, 130, 20, 3);
        DUE.is("the same stop", x.earliest(0, 0, 10079), 10079);
        DUE.is("leaving at the time", x.earliest(0, 1, 60), 120);
        DUE.is("a minute too late", x.earliest(0, 1, 61), 1560);
        DUE.is("the change is too long, so a day later", x.earliest(0, 2, 0), 1590);
        DUE.is("no ride is left", x.earliest(0, 2, 61), NONE);
        DUE.is("the week does not begin anew", x.earliest(0, 1, 1501), NONE);
        x.walk(1, 0, 4);
        x.walk(0, 1, 5);
        DUE.is("walking", x.earliest(0, 1, 0), 5);
        DUE.is("walking there and riding on at once", x.earliest(0, 2, 125), 150);
        int[][] bad = {{3, 0, 0}, {0, 3, 0}, {-1, 0, 0}, {0, -1, 0}, {0, 0, -1}, {0, 0, 10080}, {LOW, LOW, LOW}, {HIGH, HIGH, HIGH}};
        for (int i = 0; i < bad.length; i++) {
            DUE.is("bad earliest " + i, x.earliest(bad[i][0], bad[i][1], bad[i][2]), BAD);
        }
        roundOfWalksIsQuickerThanTheChange();
    }

    private static void roundOfWalksIsQuickerThanTheChange() {
        TimedWays x = withStops(0, 60, 0, 0);
        x.ride(0, 1, 10, 10, 1);
        x.ride(1, 2, 25, 5, 1);
        DUE.is("no round", x.earliest(0, 2, 0), NONE);
        x.walk(1, 3, 2);
        x.walk(3, 1, 3);
        DUE.is("a round of 5 minutes", x.earliest(0, 2, 0), 30);
        DUE.is("latest by a round", x.latest(0, 2, 30), 10);
        DUE.is("fastest by a round", x.fastest(0, 2, 0, 600), 20);
        DUE.is("fewest by a round", x.fewest(0, 2, 0, 30), 2);
        DUE.is("way by a round", x.way(0, 2, 0), 4);
        acts("way by a round", x, new int[] {1, 0, 0, 10, 20}, new int[] {0, 0, NONE, 20, 22},
            new int[] {0, 1, NONE, 22, 25}, new int[] {1, 1, 0, 25, 30});
        x.late(0, 0, 1);
        DUE.is("a minute too long", x.earliest(0, 2, 0), NONE);
    }

    private static void promise9Latest() {
        TimedWays x = withStops(0, 3, 0);
        x.ride(0, 1, 60, 60, 127);
        x.ride(1, 2, 123, 20, 127);
        x.walk(2, 0, 600);
        DUE.is("just then", x.latest(0, 2, 143), 60);
        DUE.is("a minute less", x.latest(0, 2, 142), NONE);
        DUE.is("a day later", x.latest(0, 2, 1583), 1500);
        DUE.is("the last of the week", x.latest(0, 2, 20000), 6 * 1440 + 60);
        DUE.is("the same stop", x.latest(0, 0, 77), 77);
        DUE.is("the same stop, no later than the last time", x.latest(0, 0, 20000), 10079);
        DUE.is("by 0", x.latest(0, 0, 0), 0);
        DUE.is("walking", x.latest(2, 0, 600), 0);
        DUE.is("walking too long", x.latest(2, 0, 599), NONE);
        DUE.is("walking, then riding", x.latest(2, 1, 1440 + 120), 1500 - 600);
        int[][] bad = {{3, 0, 0}, {0, 3, 0}, {-1, 0, 0}, {0, -1, 0}, {0, 0, -1}, {0, 0, 20001}, {LOW, LOW, LOW}, {HIGH, HIGH, HIGH}};
        for (int i = 0; i < bad.length; i++) {
            DUE.is("bad latest " + i, x.latest(bad[i][0], bad[i][1], bad[i][2]), BAD);
        }
        TimedWays late = withStops(0, 0);
        late.ride(0, 1, 1439, 1, 64);
        late.late(0, 6, 300);
        DUE.is("what leaves behind the last time", late.latest(0, 1, 10380), 10079);
        DUE.is("never is not early", late.latest(1, 0, 20000), NONE);
        changesCountBehindADeparture();
    }

    /** Of three rides on to stop 2, those that leave within the change of 4 minutes may not be taken. */
    private static void changesCountBehindADeparture() {
        TimedWays x = withStops(0, 4, 0);
        x.ride(0, 1, 10, 10, 1);
        x.ride(1, 2, 19, 5, 1);
        x.ride(1, 2, 23, 5, 1);
        DUE.is("too short a change: earliest", x.earliest(0, 2, 0), NONE);
        DUE.is("too short a change: latest", x.latest(0, 2, 20000), NONE);
        DUE.is("too short a change: fewest", x.fewest(0, 2, 0, 20000), NONE);
        DUE.is("too short a change: fastest", x.fastest(0, 2, 0, 600), NONE);
        DUE.is("too short a change: profile", x.profile(0, 2, 0, 600), 1);
        DUE.is("too short a change: reach", x.reach(0, 0, 20000), 3);
        DUE.is("too short a change: way", x.way(0, 2, 0), NONE);
        x.ride(1, 2, 24, 5, 1);
        DUE.is("long enough: earliest", x.earliest(0, 2, 0), 29);
        DUE.is("long enough: latest", x.latest(0, 2, 29), 10);
        DUE.is("long enough: fewest", x.fewest(0, 2, 0, 29), 2);
        DUE.is("long enough: fastest", x.fastest(0, 2, 0, 600), 19);
        DUE.is("long enough: profile", x.profile(0, 2, 0, 600), 2);
        steps("long enough", x, new int[] {0, 29}, new int[] {11, NONE});
        DUE.is("long enough: way", x.way(0, 2, 0), 2);
        acts("long enough", x, new int[] {1, 0, 0, 10, 20}, new int[] {1, 3, 0, 24, 29});
        x.walk(2, 0, 7);
        DUE.is("walking on behind a ride", x.earliest(1, 0, 24), 36);
    }

    private static void promise10Fewest() {
        TimedWays x = withStops(0, 0, 0, 0);
        x.ride(0, 1, 10, 10, 1);
        x.ride(1, 2, 20, 10, 1);
        x.ride(2, 3, 30, 10, 1);
        x.ride(0, 2, 10, 19, 1);
        x.ride(0, 3, 10, 31, 1);
        x.walk(0, 3, 90);
        DUE.is("two rides", x.fewest(0, 3, 0, 40), 2);
        x.late(3, 0, NONE);
        DUE.is("three rides", x.fewest(0, 3, 0, 40), 3);
        DUE.is("too early", x.fewest(0, 3, 0, 39), NONE);
        DUE.is("one ride", x.fewest(0, 3, 0, 41), 1);
        DUE.is("walking in time", x.fewest(0, 3, 0, 90), 0);
        DUE.is("walking too late", x.fewest(0, 3, 0, 89), 1);
        DUE.is("the same stop", x.fewest(0, 0, 5, 5), 0);
        DUE.is("by is over", x.fewest(0, 0, 5, 4), NONE);
        int[][] bad = {
            {4, 0, 0, 0}, {0, 4, 0, 0}, {-1, 0, 0, 0}, {0, -1, 0, 0}, {0, 0, -1, 0}, {0, 0, 10080, 20000}, {0, 0, 0, -1},
            {0, 0, 0, 20001}, {LOW, HIGH, LOW, HIGH}
        };
        for (int i = 0; i < bad.length; i++) {
            DUE.is("bad fewest " + i, x.fewest(bad[i][0], bad[i][1], bad[i][2], bad[i][3]), BAD);
        }
        allStopsInARow();
    }

    private static void allStopsInARow() {
        TimedWays x = withStops(0, 0, 0, 0, 0, 0, 0, 0, 0, 0, 0, 0);
        for (int i = 0; i < 11; i++) {
            x.ride(i, i + 1, 10 * i, 10, 1);
        }
        DUE.is("eleven rides", x.fewest(0, 11, 0, 110), 11);
        DUE.is("way of eleven rides", x.way(0, 11, 0), 11);
        DUE.is("the last of them", x.act(10, 1), 10);
        for (int i = 0; i < 11; i++) {
            x.walk(i, i + 1, 600);
        }
        DUE.is("eleven walks", x.earliest(0, 11, 10079), 10079 + 6600);
        DUE.is("reach by walks", x.reach(0, 10079, 10079 + 6599), (1 << 11) - 1);
    }

    private static void promise11Fastest() {
        TimedWays x = withStops(0, 0);
        x.ride(0, 1, 100, 50, 1);
        x.ride(0, 1, 200, 40, 1);
        DUE.is("at its leaving", x.fastest(0, 1, 0, 600), 40);
        DUE.is("at the last time", x.fastest(0, 1, 0, 150), 50);
        DUE.is("before it leaves", x.fastest(0, 1, 0, 90), 60);
        DUE.is("one time", x.fastest(0, 1, 101, 101), 139);
        DUE.is("none", x.fastest(0, 1, 201, 600), NONE);
        DUE.is("none at some", x.fastest(0, 1, 199, 600), 40);
        DUE.is("the same stop", x.fastest(1, 1, 0, 600), 0);
        DUE.is("the last span", x.fastest(1, 1, 9479, 10079), 0);
        x.walk(0, 1, 45);
        DUE.is("walking", x.fastest(0, 1, 0, 150), 45);
        badSpans("fastest", x);
        DUE.is("601 apart", x.fastest(0, 1, 0, 601), BAD);
        DUE.is("last below first", x.fastest(0, 1, 5, 4), BAD);
    }

    private static void badSpans(String name, TimedWays x) {
        int[][] bad = {
            {2, 0, 0, 0}, {0, 2, 0, 0}, {-1, 0, 0, 0}, {0, -1, 0, 0}, {0, 0, -1, 0}, {0, 0, 10079, 10080}, {0, 0, 10080, 10080},
            {0, 0, 0, 601}, {0, 0, 1, 0}, {0, 0, LOW, HIGH}, {0, 0, HIGH, LOW}, {HIGH, LOW, HIGH, LOW}
        };
        for (int i = 0; i < bad.length; i++) {
            int[] b = bad[i];
            int answer = name.equals("fastest") ? x.fastest(b[0], b[1], b[2], b[3]) : x.profile(b[0], b[1], b[2], b[3]);
            DUE.is("bad " + name + " " + i, answer, BAD);
        }
    }

    private static void promises12And13ProfileAndStep() {
        TimedWays x = withStops(0, 0);
        DUE.is("no profile yet", x.step(0, 0), BAD);
        x.ride(0, 1, 100, 50, 1);
        x.ride(0, 1, 200, 40, 1);
        DUE.is("profile", x.profile(0, 1, 50, 300), 3);
        steps("profile", x, new int[] {50, 150}, new int[] {101, 240}, new int[] {201, NONE});
        badSpans("profile", x);
        DUE.is("fastest tells no steps", x.fastest(0, 1, 0, 600), 40);
        x.late(0, 0, NONE);
        steps("steps stay as they were told", x, new int[] {50, 150}, new int[] {101, 240}, new int[] {201, NONE});
        DUE.is("step(-1, 0)", x.step(-1, 0), BAD);
        DUE.is("step(0, -1)", x.step(0, -1), BAD);
        DUE.is("step(0, 2)", x.step(0, 2), BAD);
        DUE.is("step(LOW, HIGH)", x.step(LOW, HIGH), BAD);
        DUE.is("none at any time", x.profile(1, 0, 0, 600), 1);
        steps("none at any time", x, new int[] {0, NONE});
        DUE.is("every minute", x.profile(0, 0, 9479, 10079), 601);
        DUE.is("the last step's time", x.step(600, 0), 10079);
        DUE.is("the last step's arrival", x.step(600, 1), 10079);
        DUE.is("behind the last", x.step(601, 0), BAD);
        DUE.is("one time", x.profile(0, 1, 200, 200), 1);
        steps("one time", x, new int[] {200, 240});
        x.walk(0, 1, 60);
        DUE.is("walking until a ride is earlier", x.profile(0, 1, 178, 203), 6);
        steps("walking until a ride is earlier", x, new int[] {178, 238}, new int[] {179, 239}, new int[] {180, 240},
            new int[] {201, 261}, new int[] {202, 262}, new int[] {203, 263});
    }

    private static void promise14Reach() {
        TimedWays x = withStops(0, 0, 0, 0);
        x.ride(0, 1, 10, 10, 1);
        x.walk(1, 2, 5);
        DUE.is("before it begins", x.reach(0, 10, 9), 0);
        DUE.is("at once", x.reach(0, 10, 10), 1);
        DUE.is("just not there", x.reach(0, 10, 19), 1);
        DUE.is("there", x.reach(0, 10, 20), 3);
        DUE.is("walking on", x.reach(0, 10, 25), 7);
        DUE.is("never all", x.reach(0, 10, 20000), 7);
        DUE.is("from another one", x.reach(1, 0, 20000), 6);
        int[][] bad = {{4, 0, 0}, {-1, 0, 0}, {0, -1, 0}, {0, 10080, 20000}, {0, 0, -1}, {0, 0, 20001}, {LOW, LOW, LOW}, {HIGH, HIGH, HIGH}};
        for (int i = 0; i < bad.length; i++) {
            DUE.is("bad reach " + i, x.reach(bad[i][0], bad[i][1], bad[i][2]), BAD);
        }
    }

    private static void promises15And16WayAndAct() {
        TimedWays x = withStops(0, 5, 0);
        DUE.is("nothing is told", x.act(0, 0), BAD);
        x.ride(0, 1, 10, 10, 2);
        x.ride(1, 2, 40, 10, 2);
        x.walk(0, 1, 500);
        DUE.is("way", x.way(0, 2, 1440), 2);
        acts("way", x, new int[] {1, 0, 1, 1450, 1460}, new int[] {1, 1, 1, 1480, 1490});
        DUE.is("no way", x.way(2, 0, 0), NONE);
        DUE.is("bad way, from", x.way(3, 0, 0), BAD);
        DUE.is("bad way, to", x.way(0, -1, 0), BAD);
        DUE.is("bad way, at -1", x.way(0, 0, -1), BAD);
        DUE.is("bad way, at 10080", x.way(0, 0, 10080), BAD);
        x.earliest(0, 1, 5);
        x.late(0, 1, NONE);
        acts("what was told stays", x, new int[] {1, 0, 1, 1450, 1460}, new int[] {1, 1, 1, 1480, 1490});
        DUE.is("act(-1, 0)", x.act(-1, 0), BAD);
        DUE.is("act(0, -1)", x.act(0, -1), BAD);
        DUE.is("act(0, 5)", x.act(0, 5), BAD);
        DUE.is("act(HIGH, LOW)", x.act(HIGH, LOW), BAD);
        DUE.is("walking, then riding", x.way(0, 2, 0), 2);
        acts("walking, then riding", x, new int[] {0, 0, NONE, 0, 500}, new int[] {1, 1, 1, 1480, 1490});
        DUE.is("without acts", x.way(1, 1, 7), 0);
        acts("without acts", x);
    }

    private static void promise15TiesOfTheEnd() {
        TimedWays x = withStops(0, 0, 0);
        x.ride(0, 1, 10, 10, 1);
        x.walk(0, 1, 20);
        x.walk(0, 1, 20);
        x.way(0, 1, 0);
        acts("a walk before a ride, the least number", x, new int[] {0, 0, NONE, 0, 20});
        x.way(0, 1, 1);
        acts("a ride that is earlier", x, new int[] {1, 0, 0, 10, 20});
        x.ride(0, 2, 20, 20, 1);
        x.ride(0, 2, 5, 35, 1);
        x.ride(1, 2, 20, 20, 1);
        x.way(0, 2, 0);
        acts("the first ride in order", x, new int[] {1, 1, 0, 20, 40});
        x.late(1, 0, 1);
        x.way(0, 2, 0);
        acts("the first ride that arrives then", x, new int[] {1, 2, 0, 5, 40});
        x.way(0, 2, 10);
        acts("the first that may be taken, by ride", x, new int[] {1, 0, 0, 10, 20}, new int[] {1, 3, 0, 20, 40});
        x.way(0, 2, 0);
        x.late(2, 0, NONE);
        x.way(0, 2, 0);
        acts("on by walk, if that is in time", x, new int[] {0, 0, NONE, 0, 20}, new int[] {1, 3, 0, 20, 40});
    }

    private static void promise15TiesOfDays() {
        TimedWays x = withStops(0, 0);
        x.ride(0, 1, 300, 10, 1 | 2);
        x.ride(0, 1, 300, 1440, 1);
        x.late(0, 0, NONE);
        x.late(0, 1, 0);
        x.ride(0, 1, 290, 20, 2);
        x.way(0, 1, 310);
        acts("rides before days", x, new int[] {1, 0, 1, 1740, 1750});
        x.late(0, 1, NONE);
        x.ride(0, 1, 295, 15, 2);
        x.way(0, 1, 310);
        acts("the first of two", x, new int[] {1, 2, 1, 1730, 1750});
    }

    /** It goes on from where a walk began by what is the arrival there, a ride too. */
    private static void promise15WalkBehindARide() {
        TimedWays x = withStops(0, 60, 0);
        x.ride(0, 1, 0, 10, 1);
        x.walk(1, 2, 3);
        x.walk(0, 1, 11);
        x.way(0, 2, 0);
        acts("a walk behind a ride", x, new int[] {1, 0, 0, 0, 10}, new int[] {0, 0, NONE, 10, 13});
        x.walk(0, 1, 10);
        x.way(0, 2, 0);
        acts("a walk behind a walk", x, new int[] {0, 2, NONE, 0, 10}, new int[] {0, 0, NONE, 10, 13});
    }

    private static void promise17Next() {
        TimedWays x = withStops(0, 0);
        x.ride(0, 1, 100, 10, 127);
        x.ride(0, 1, 100, 10, 1);
        x.ride(0, 1, 90, 10, 1);
        x.ride(1, 0, 50, 10, 1);
        DUE.is("the first", x.next(0, 0), 14);
        DUE.is("at its leaving", x.next(0, 90), 14);
        DUE.is("several: the first in order", x.next(0, 91), 0);
        DUE.is("a day later", x.next(0, 101), 1);
        DUE.is("the last", x.next(0, 6 * 1440 + 100), 6);
        DUE.is("none", x.next(0, 6 * 1440 + 101), NONE);
        DUE.is("another stop", x.next(1, 0), 21);
        x.late(2, 0, 10);
        DUE.is("late, then equal", x.next(0, 0), 0);
        x.late(0, 0, NONE);
        DUE.is("what goes", x.next(0, 0), 7);
        x.late(1, 0, 1);
        DUE.is("what leaves first", x.next(0, 0), 14);
        x.late(0, 6, 300);
        DUE.is("late on the last day", x.next(0, 10079), NONE);
        int[][] bad = {{2, 0}, {-1, 0}, {0, -1}, {0, 10080}, {LOW, HIGH}};
        for (int i = 0; i < bad.length; i++) {
            DUE.is("bad next " + i, x.next(bad[i][0], bad[i][1]), BAD);
        }
    }

    private static void promise18Told() {
        TimedWays x = withStops(0, 0, 0);
        x.ride(0, 1, 2, 3, 4);
        x.ride(2, 1, 1439, 1440, 127);
        int[] want = {2, 1, 1439, 1440, 127, 127};
        for (int what = 0; what < want.length; what++) {
            DUE.is("told(1, " + what + ")", x.told(1, what), want[what]);
        }
        x.late(1, 2, NONE);
        x.late(1, 6, NONE);
        x.late(1, 3, 300);
        DUE.is("its days", x.told(1, 4), 127);
        DUE.is("days on which it goes", x.told(1, 5), 127 - 4 - 64);
        DUE.is("another ride's", x.told(0, 5), 4);
        int[][] bad = {{2, 0}, {-1, 0}, {0, -1}, {0, 6}, {LOW, HIGH}, {HIGH, LOW}};
        for (int i = 0; i < bad.length; i++) {
            DUE.is("bad told " + i, x.told(bad[i][0], bad[i][1]), BAD);
        }
    }

    private static void promise19Of() {
        TimedWays x = withStops(0, 0, 0);
        x.ride(0, 1, 2, 3, 127);
        x.ride(0, 1, 2, 3, 5);
        x.walk(0, 1, 1);
        counts("of", x, 3, 2, 1, 9, 0);
        x.late(0, 0, 1);
        x.late(0, 1, 300);
        x.late(0, 2, 0);
        x.late(1, 0, NONE);
        counts("of, some late", x, 3, 2, 1, 8, 2);
        x.late(0, 1, NONE);
        counts("of, fewer late", x, 3, 2, 1, 7, 1);
        for (int what : new int[] {-1, 5, LOW, HIGH}) {
            DUE.is("of(" + what + ")", x.of(what), BAD);
        }
    }

    public static void main(String[] args) {
        promise1NewObject();
        promise2Clear();
        promise3Stop();
        promise4Change();
        promise5Ride();
        promise6Walk();
        promise7Late();
        promise8Earliest();
        promise9Latest();
        promise10Fewest();
        promise11Fastest();
        promises12And13ProfileAndStep();
        promise14Reach();
        promises15And16WayAndAct();
        promise15TiesOfTheEnd();
        promise15TiesOfDays();
        promise15WalkBehindARide();
        promise17Next();
        promise18Told();
        promise19Of();
        DUE.end();
    }
}
