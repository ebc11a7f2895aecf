/** The boundary cases that the document names, sentence by sentence, with answers found by hand. */
public final class EdgesTest {
    private static final int NONE = TimedWays.NONE, BAD = TimedWays.BAD, FULL = TimedWays.FULL;
    private static final int ALL_DAYS = 127, LAST_DAY = 64, LAST_TIME = 10079, LAST_BY = 20000;
    private static final Due DUE = new Due("EdgesTest");

    private static TimedWays withStops(int count, int change) {
        TimedWays x = new TimedWays();
        for (int i = 0; i < count; i++) {
            x.stop(change);
        }
        return x;
    }

    /** Each act as whether it is a departure, its number, day, beginning and end. */
    private static void acts(String call, TimedWays x, int[]... want) {
        for (int i = 0; i < want.length; i++) {
            for (int what = 0; what <= 4; what++) {
                DUE.is(call + ", act(" + i + ", " + what + ")", x.act(i, what), want[i][what]);
            }
        }
        DUE.is(call + ", no act more", x.act(want.length, 0), BAD);
    }

    private static void steps(String call, TimedWays x, int[]... want) {
        for (int i = 0; i < want.length; i++) {
            DUE.is(call + ", step(" + i + ", 0)", x.step(i, 0), want[i][0]);
            DUE.is(call + ", step(" + i + ", 1)", x.step(i, 1), want[i][1]);
        }
        DUE.is(call + ", no step more", x.step(want.length, 0), BAD);
    }

    private static int[] row(int... numbers) {
        return numbers;
    }

    /** "An object is used for at most 512 calls": the last one of them is answered like the first. */
    private static void useFiveHundredAndTwelveCalls() {
        TimedWays x = withStops(2, 0);
        x.ride(0, 1, 100, 10, 1);
        for (int i = 0; i < 254; i++) {
            x.late(0, 0, i % 2 == 0 ? NONE : i);
            x.earliest(0, 1, 0);
        }
        DUE.is("the 512th call", x.earliest(0, 1, 0), 363);
    }

    /** "STOPS 0, 1, .., 12 at most", "RIDES 0, 1, .., 40 at most", "WALKS 0, 1, .., 30 at most". */
    private static void useTheLastOfEach() {
        TimedWays x = withStops(12, 60);
        for (int i = 0; i < 39; i++) {
            x.ride(0, 1, 1439, 1440, LAST_DAY);
        }
        for (int i = 0; i < 29; i++) {
            x.walk(0, 1, 600);
        }
        DUE.is("the last walk", x.walk(11, 10, 5), 29);
        DUE.is("the last ride", x.ride(10, 11, 7, 3, ALL_DAYS), 39);
        DUE.is("the last ride on the last day", x.late(39, 6, 300), 0);
        DUE.is("the last ride's days", x.told(39, 5), ALL_DAYS);
        DUE.is("the last departure of all", x.next(10, 6 * 1440), 39 * 7 + 6);
        DUE.is("the last stop's change", x.change(11, 59), 60);
        DUE.is("to the last stop", x.earliest(10, 11, 0), 10);
        DUE.is("from the last stop", x.earliest(11, 10, 0), 5);
        DUE.is("the last stop's bit", x.reach(10, 0, 10), 1 << 10 | 1 << 11);
        DUE.is("without acts at the last stop", x.way(11, 11, 0), 0);
        DUE.is("by the last walk", x.way(11, 10, 2), 1);
        acts("by the last walk", x, row(0, 29, NONE, 2, 7));
        DUE.is("by the last ride", x.way(10, 11, 6 * 1440), 1);
        acts("by the last ride", x, row(1, 39, 6, 6 * 1440 + 307, 6 * 1440 + 310));
        DUE.is("no stop more", x.stop(0), FULL);
        DUE.is("no ride more", x.ride(0, 1, 0, 1, 1), FULL);
        DUE.is("no walk more", x.walk(0, 1, 1), FULL);
        DUE.is("no walk more was made", x.earliest(0, 1, 0), 600);
        DUE.is("stops", x.of(0), 12);
        DUE.is("rides", x.of(1), 40);
        DUE.is("walks", x.of(2), 30);
        DUE.is("departures", x.of(3), 39 + 7);
    }

    /** All that can go, goes. */
    private static void termsAllDepartures() {
        TimedWays x = withStops(2, 0);
        for (int i = 0; i < 40; i++) {
            x.ride(0, 1, i, 1440 - i, ALL_DAYS);
        }
        DUE.is("all departures", x.of(3), 280);
        DUE.is("none is late", x.of(4), 0);
        for (int ride = 0; ride < 40; ride++) {
            for (int day = 0; day < 7; day++) {
                x.late(ride, day, 1);
            }
        }
        DUE.is("all departures, all late", x.of(3), 280);
        DUE.is("all are late", x.of(4), 280);
        for (int ride = 0; ride < 40; ride++) {
            x.late(ride, 3, NONE);
        }
        DUE.is("but for one day", x.of(3), 240);
        DUE.is("but for one day, late", x.of(4), 240);
        DUE.is("the first of them", x.next(0, 0), 0);
        DUE.is("the last of them", x.next(0, 6 * 1440 + 40), 39 * 7 + 6);
        DUE.is("behind the last of them", x.next(0, 6 * 1440 + 41), NONE);
    }

    /** "DAYS (0 .. 6, as bits)", "LEAVES at 1440 times its DAY and its MINUTE". */
    private static void termsEachDay() {
        for (int days = 1; days <= ALL_DAYS; days++) {
            TimedWays x = withStops(2, 0);
            x.ride(0, 1, 1439, 1, days);
            String call = "days " + days;
            DUE.is(call + ", told(0, 4)", x.told(0, 4), days);
            DUE.is(call + ", told(0, 5)", x.told(0, 5), days);
            DUE.is(call + ", of(3)", x.of(3), Integer.bitCount(days));
            for (int day = 0; day < 7; day++) {
                boolean goes = (days >> day & 1) == 1;
                DUE.is(call + ", late on " + day, x.late(0, day, 300), goes ? 0 : BAD);
                DUE.is(call + ", not on " + day, x.late(0, day, NONE), goes ? 300 : BAD);
                DUE.is(call + ", on time on " + day, x.late(0, day, 0), goes ? NONE : BAD);
            }
            int first = Integer.numberOfTrailingZeros(days);
            DUE.is(call + ", the first", x.next(0, 0), first);
            DUE.is(call + ", its arrival", x.earliest(0, 1, 0), 1440 * first + 1440);
            DUE.is(call + ", of(4)", x.of(4), 0);
        }
    }

    /** The first minute of the week and the last one, and rides that go on behind it. */
    private static void termsEndsOfTheWeek() {
        TimedWays x = withStops(3, 0);
        x.ride(0, 1, 0, 1, 1);
        x.ride(0, 1, 1439, 1440, LAST_DAY);
        x.ride(1, 2, 1439, 1440, LAST_DAY);
        DUE.is("the first minute", x.earliest(0, 1, 0), 1);
        DUE.is("a minute later, the last of the week", x.earliest(0, 1, 1), LAST_TIME + 1440);
        DUE.is("at the last minute", x.earliest(0, 1, LAST_TIME), LAST_TIME + 1440);
        DUE.is("the ride that was missed", x.earliest(0, 2, 1), NONE);
        DUE.is("all week between both", x.earliest(0, 2, 0), LAST_TIME + 1440);
        x.late(1, 6, 300);
        DUE.is("the last end that a departure can have", x.earliest(0, 1, LAST_TIME), 11819);
        DUE.is("it leaves behind the last time", x.next(0, LAST_TIME), 1 * 7 + 6);
        DUE.is("behind the last time, as an act", x.way(0, 1, LAST_TIME), 1);
        acts("behind the last time, as an act", x, row(1, 1, 6, 10379, 11819));
        DUE.is("latest is no later than the last time", x.latest(0, 1, 11819), LAST_TIME);
        DUE.is("a minute less", x.latest(0, 1, 11818), 0);
        DUE.is("nothing begins anew", x.fastest(0, 1, 9479, LAST_TIME), 11819 - LAST_TIME);
        DUE.is("one step", x.profile(0, 1, 9479, LAST_TIME), 1);
        steps("one step", x, row(9479, 11819));
        x.late(2, 6, 300);
        x.walk(0, 1, 300);
        DUE.is("a walk behind the last time that is in time", x.earliest(0, 2, LAST_TIME), 11819);
        x.late(2, 6, 299);
        DUE.is("a walk that is a minute too long", x.earliest(0, 2, LAST_TIME), NONE);
        DUE.is("a minute earlier", x.latest(0, 2, LAST_BY), LAST_TIME - 1);
    }

    /** "LATE by 0 .. 300 minutes (leaving and arriving so much later)": behind midnight too. */
    private static void termsLateOverMidnight() {
        TimedWays x = withStops(2, 0);
        x.ride(0, 1, 1430, 20, 1);
        x.ride(0, 1, 0, 20, 2);
        DUE.is("on time", x.earliest(0, 1, 1430), 1450);
        x.late(0, 0, 10);
        DUE.is("at midnight, of several the first in order", x.next(0, 1431), 0);
        DUE.is("at midnight", x.earliest(0, 1, 1440), 1460);
        DUE.is("the first in order", x.way(0, 1, 1431), 1);
        acts("the first in order", x, row(1, 0, 0, 1440, 1460));
        x.late(0, 0, 11);
        DUE.is("behind midnight, the other one is first", x.next(0, 1431), 7 + 1);
        DUE.is("behind midnight", x.next(0, 1441), 0);
        DUE.is("behind midnight, leaving", x.earliest(0, 1, 1441), 1461);
        DUE.is("it is the departure of the day before", x.told(0, 5), 1);
        x.late(0, 0, 300);
        DUE.is("most late", x.latest(0, 1, LAST_BY), 1730);
        DUE.is("a minute less than it takes", x.latest(0, 1, 1749), 1440);
    }

    /** "if the ACT before is a DEPARTURE, no earlier than that and the CHANGE of the STOP". */
    private static void termsChange() {
        for (int change : new int[] {0, 1, 59, 60}) {
            TimedWays x = withStops(12, 60);
            x.change(11, change);
            x.change(0, change);
            x.ride(0, 11, 100, 10, 1);
            x.ride(11, 1, 110 + change, 10, 1);
            String call = "change " + change;
            DUE.is(call + ", just enough", x.earliest(0, 1, 100), 120 + change);
            DUE.is(call + ", just enough, latest", x.latest(0, 1, 120 + change), 100);
            DUE.is(call + ", just enough, fewest", x.fewest(0, 1, 100, 120 + change), 2);
            DUE.is(call + ", just enough, fastest", x.fastest(0, 1, 100, 100), 20 + change);
            DUE.is(call + ", just enough, profile", x.profile(0, 1, 100, 101), 2);
            steps(call + ", just enough", x, row(100, 120 + change), row(101, NONE));
            DUE.is(call + ", just enough, reach", x.reach(0, 100, 120 + change), 1 | 2 | 1 << 11);
            DUE.is(call + ", just enough, way", x.way(0, 1, 100), 2);
            x.late(0, 0, 1);
            DUE.is(call + ", a minute less", x.earliest(0, 1, 100), NONE);
            DUE.is(call + ", a minute less, latest", x.latest(0, 1, LAST_BY), NONE);
            DUE.is(call + ", a minute less, fewest", x.fewest(0, 1, 100, LAST_BY), NONE);
            DUE.is(call + ", a minute less, fastest", x.fastest(0, 1, 0, 600), NONE);
            DUE.is(call + ", a minute less, profile", x.profile(0, 1, 100, 101), 1);
            DUE.is(call + ", a minute less, reach", x.reach(0, 100, LAST_BY), 1 | 1 << 11);
            DUE.is(call + ", a minute less, way", x.way(0, 1, 100), NONE);
            DUE.is(call + ", not at the beginning", x.earliest(11, 1, 110 + change), 120 + change);
            x.late(1, 0, 1);
            DUE.is(call + ", both late", x.earliest(0, 1, 100), 121 + change);
        }
    }

    /** "A DEPARTURE may be taken, if it LEAVES no earlier than that": without a change behind a walk. */
    private static void termsNoChangeBehindAWalk() {
        TimedWays x = withStops(3, 60);
        x.walk(0, 1, 10);
        x.ride(1, 2, 20, 5, 1);
        DUE.is("just in time", x.earliest(0, 2, 10), 25);
        DUE.is("a minute late", x.earliest(0, 2, 11), NONE);
        DUE.is("just in time, latest", x.latest(0, 2, 25), 10);
        DUE.is("just in time, way", x.way(0, 2, 10), 2);
        acts("just in time", x, row(0, 0, NONE, 10, 20), row(1, 0, 0, 20, 25));
        DUE.is("waiting for it, way", x.way(0, 2, 0), 2);
        acts("a walk begins at once", x, row(0, 0, NONE, 0, 10), row(1, 0, 0, 20, 25));
    }

    /** "A WALK begins when that ended": behind a departure it needs no change. */
    private static void termsWalkBehindADeparture() {
        TimedWays x = withStops(3, 60);
        x.ride(0, 1, 0, 1, 1);
        x.walk(1, 2, 1);
        DUE.is("at once", x.earliest(0, 2, 0), 2);
        DUE.is("at once, latest", x.latest(0, 2, 2), 0);
        DUE.is("at once, no earlier", x.latest(0, 2, 1), NONE);
        DUE.is("one departure", x.fewest(0, 2, 0, 2), 1);
    }

    /** "(not back)", "at any time". */
    private static void termsWalks() {
        TimedWays x = withStops(12, 60);
        for (int i = 0; i < 11; i++) {
            x.walk(i, i + 1, 600);
        }
        DUE.is("all of the longest walks", x.earliest(0, 11, LAST_TIME), LAST_TIME + 6600);
        DUE.is("not back", x.earliest(11, 0, 0), NONE);
        DUE.is("not back, reach", x.reach(11, 0, LAST_BY), 1 << 11);
        DUE.is("all, reach", x.reach(0, LAST_TIME, LAST_TIME + 6600), (1 << 12) - 1);
        DUE.is("all but one, reach", x.reach(0, LAST_TIME, LAST_TIME + 6599), (1 << 11) - 1);
        DUE.is("all, at first", x.latest(0, 11, 6600), 0);
        DUE.is("all, too long", x.latest(0, 11, 6599), NONE);
        DUE.is("all, at the last time", x.latest(0, 11, LAST_TIME + 6600), LAST_TIME);
        DUE.is("all, a minute before", x.latest(0, 11, LAST_TIME + 6599), LAST_TIME - 1);
        DUE.is("all, way", x.way(0, 11, LAST_TIME), 11);
        DUE.is("all, the last act", x.act(10, 4), LAST_TIME + 6600);
        DUE.is("all, the first act", x.act(0, 3), LAST_TIME);
        DUE.is("all, no act more", x.act(11, 3), BAD);
        DUE.is("each minute another one", x.profile(0, 11, 9479, LAST_TIME), 601);
        DUE.is("each minute as fast", x.fastest(0, 11, 9479, LAST_TIME), 6600);
    }

    /** The last departure, most late, and walks to every other stop. */
    private static void termsTheLatestEndOfAll() {
        TimedWays x = withStops(12, 60);
        x.ride(0, 1, 1439, 1440, LAST_DAY);
        x.late(0, 6, 300);
        for (int i = 1; i < 11; i++) {
            x.walk(i, i + 1, 600);
        }
        int end = 11819 + 6000;
        DUE.is("the latest end", x.earliest(0, 11, 0), end);
        DUE.is("the latest end, reach", x.reach(0, 0, end), (1 << 12) - 1);
        DUE.is("the latest end, a minute less", x.reach(0, 0, end - 1), (1 << 11) - 1);
        DUE.is("the latest end, latest", x.latest(0, 11, end), LAST_TIME);
        DUE.is("the latest end, latest, a minute less", x.latest(0, 11, end - 1), NONE);
        DUE.is("the latest end, fewest", x.fewest(0, 11, LAST_TIME, end), 1);
        DUE.is("the latest end, fewest, a minute less", x.fewest(0, 11, LAST_TIME, end - 1), NONE);
        DUE.is("the latest end, one step", x.profile(0, 11, 0, 600), 1);
        DUE.is("the latest end, its arrival", x.step(0, 1), end);
        DUE.is("the latest end, way", x.way(0, 11, 0), 11);
        DUE.is("the latest end, its last act", x.act(10, 4), end);
    }

    /** The most acts that a way can have: a round of walks behind each ride, where the change is too long. */
    private static void termsTheMostActs() {
        TimedWays x = withStops(12, 60);
        for (int i = 0; i < 6; i++) {
            x.ride(Math.max(0, 2 * i - 1), 2 * i + 1, 10 * i, 5, 1);
        }
        for (int stop = 1; stop < 11; stop += 2) {
            x.walk(stop, stop + 1, 1);
            x.walk(stop + 1, stop, 4);
        }
        DUE.is("the most acts, earliest", x.earliest(0, 11, 0), 55);
        DUE.is("the most acts, fewest", x.fewest(0, 11, 0, 55), 6);
        DUE.is("the most acts, latest", x.latest(0, 11, 55), 0);
        DUE.is("the most acts", x.way(0, 11, 0), 16);
        DUE.is("no act more", x.act(16, 0), BAD);
        for (int i = 0; i < 6; i++) {
            acts3(x, i);
        }
        x.walk(0, 11, 54);
        DUE.is("one act", x.way(0, 11, 0), 1);
        acts("one act", x, row(0, 10, NONE, 0, 54));
    }

    private static void acts3(TimedWays x, int i) {
        int[][] want = {
            row(1, i, 0, 10 * i, 10 * i + 5), row(0, 2 * i, NONE, 10 * i + 5, 10 * i + 6),
            row(0, 2 * i + 1, NONE, 10 * i + 6, 10 * i + 10)
        };
        for (int j = 0; j < (i < 5 ? 3 : 1); j++) {
            for (int what = 0; what <= 4; what++) {
                DUE.is("the most acts, act(" + (3 * i + j) + ", " + what + ")", x.act(3 * i + j, what), want[j][what]);
            }
        }
    }

    /** "BY WALK, if that is THE ARRIVAL, else by BY RIDE": at the same minute, and a minute beside it. */
    private static void termsWalkAndRideAtOneTime() {
        TimedWays x = withStops(2, 0);
        x.ride(0, 1, 10, 10, 1);
        x.walk(0, 1, 15);
        DUE.is("at one time", x.way(0, 1, 5), 1);
        acts("at one time", x, row(0, 0, NONE, 5, 20));
        DUE.is("the ride is a minute earlier", x.way(0, 1, 6), 1);
        acts("the ride is a minute earlier", x, row(1, 0, 0, 10, 20));
        DUE.is("the walk is a minute earlier", x.way(0, 1, 4), 1);
        acts("the walk is a minute earlier", x, row(0, 0, NONE, 4, 19));
        DUE.is("both are steps of one profile", x.profile(0, 1, 4, 11), 3);
        steps("both are steps of one profile", x, row(4, 19), row(5, 20), row(11, 26));
    }

    /** "the first DEPARTURE, in order, that ARRIVES at x then, GOES, and may be taken". */
    private static void termsTheFirstThatMayBeTaken() {
        TimedWays x = withStops(3, 5);
        x.ride(1, 2, 24, 16, 1);
        x.ride(1, 2, 25, 15, 1);
        x.ride(0, 1, 10, 10, 1);
        DUE.is("the change is a minute too long for the first", x.way(0, 2, 0), 2);
        acts("the change is a minute too long for the first", x, row(1, 2, 0, 10, 20), row(1, 1, 0, 25, 40));
        x.walk(0, 1, 24);
        DUE.is("by walk in time for the first", x.way(0, 2, 0), 2);
        acts("by walk in time for the first", x, row(0, 0, NONE, 0, 24), row(1, 0, 0, 24, 40));
        DUE.is("by walk in time for the second", x.way(0, 2, 1), 2);
        acts("by walk in time for the second", x, row(0, 0, NONE, 1, 25), row(1, 1, 0, 25, 40));
        DUE.is("by walk a minute late, so by ride", x.way(0, 2, 2), 2);
        acts("by walk a minute late, so by ride", x, row(1, 2, 0, 10, 20), row(1, 1, 0, 25, 40));
    }

    /** NONE is no lateness of -1, with which the first one would arrive then. */
    private static void termsTheFirstThatGoes() {
        TimedWays x = withStops(2, 0);
        x.ride(0, 1, 11, 10, 1);
        x.ride(0, 1, 10, 10, 1);
        x.late(0, 0, NONE);
        DUE.is("the first does not go", x.way(0, 1, 0), 1);
        acts("the first does not go", x, row(1, 1, 0, 10, 20));
        DUE.is("the first does not go, a minute later", x.earliest(0, 1, 11), NONE);
        DUE.is("the first does not go, next", x.next(0, 0), 7);
    }

    /** "DEPARTURES are in order by RIDES, then by DAYS": behind a ride's day 6 comes another ride's day 0. */
    private static void termsDaysOfOneRideAlone() {
        TimedWays x = withStops(3, 0);
        x.ride(0, 1, 50, 10, LAST_DAY);
        x.ride(0, 2, 10, 99, 1);
        x.ride(0, 1, 5, 15, 1);
        DUE.is("the other ride's day 0", x.way(0, 1, 0), 1);
        acts("the other ride's day 0", x, row(1, 2, 0, 5, 20));
        DUE.is("the ride's own last day", x.way(0, 1, 6), 1);
        acts("the ride's own last day", x, row(1, 0, 6, 8690, 8700));
        DUE.is("its departure", x.next(0, 11), 6);
        DUE.is("its going days", x.told(0, 5), LAST_DAY);
    }

    /** "the WALK with the least number .. so that THE ARRIVAL of y and what it takes are BY WALK of x". */
    private static void termsTheWalkWithTheLeastNumber() {
        TimedWays x = withStops(3, 0);
        x.walk(2, 1, 6);
        x.walk(0, 1, 10);
        x.walk(0, 1, 10);
        x.walk(0, 2, 5);
        DUE.is("the least number is a minute too slow", x.way(0, 1, 0), 1);
        acts("the least number is a minute too slow", x, row(0, 1, NONE, 0, 10));
        x.walk(0, 2, 4);
        DUE.is("the least number", x.way(0, 1, 0), 2);
        acts("the least number", x, row(0, 4, NONE, 0, 4), row(0, 0, NONE, 4, 10));
        x.ride(1, 2, 10, 1, 1);
        x.walk(2, 0, 3);
        DUE.is("to stop 0, walking behind a ride", x.earliest(1, 0, 10), 14);
    }

    /** "No STOPS, RIDES, WALKS; nothing is told." */
    private static void promise1NewObject() {
        TimedWays x = new TimedWays();
        for (int what = 0; what <= 4; what++) {
            DUE.is("new, of(" + what + ")", x.of(what), 0);
        }
        DUE.is("new, change(0, 0)", x.change(0, 0), BAD);
        DUE.is("new, ride(0, 1, 0, 1, 1)", x.ride(0, 1, 0, 1, 1), BAD);
        DUE.is("new, walk(0, 1, 1)", x.walk(0, 1, 1), BAD);
        DUE.is("new, late(0, 0, 0)", x.late(0, 0, 0), BAD);
        DUE.is("new, earliest(0, 0, 0)", x.earliest(0, 0, 0), BAD);
        DUE.is("new, latest(0, 0, 0)", x.latest(0, 0, 0), BAD);
        DUE.is("new, fewest(0, 0, 0, 0)", x.fewest(0, 0, 0, 0), BAD);
        DUE.is("new, fastest(0, 0, 0, 0)", x.fastest(0, 0, 0, 0), BAD);
        DUE.is("new, profile(0, 0, 0, 0)", x.profile(0, 0, 0, 0), BAD);
        DUE.is("new, step(0, 0)", x.step(0, 0), BAD);
        DUE.is("new, reach(0, 0, 0)", x.reach(0, 0, 0), BAD);
        DUE.is("new, way(0, 0, 0)", x.way(0, 0, 0), BAD);
        DUE.is("new, act(0, 0)", x.act(0, 0), BAD);
        DUE.is("new, next(0, 0)", x.next(0, 0), BAD);
        DUE.is("new, told(0, 0)", x.told(0, 0), BAD);
        DUE.is("new, clear()", x.clear(), 0);
        DUE.is("new, stop(0)", x.stop(0), 0);
    }

    /** One stop alone: a way without acts, and nothing else. */
    private static void promise1OneStop() {
        TimedWays x = withStops(1, 60);
        DUE.is("one stop, ride", x.ride(0, 0, 0, 1, 1), BAD);
        DUE.is("one stop, ride to none", x.ride(0, 1, 0, 1, 1), BAD);
        DUE.is("one stop, walk", x.walk(0, 0, 1), BAD);
        DUE.is("one stop, earliest", x.earliest(0, 0, LAST_TIME), LAST_TIME);
        DUE.is("one stop, latest", x.latest(0, 0, LAST_TIME), LAST_TIME);
        DUE.is("one stop, fewest", x.fewest(0, 0, 0, 0), 0);
        DUE.is("one stop, fastest", x.fastest(0, 0, 0, 0), 0);
        DUE.is("one stop, reach", x.reach(0, 0, 0), 1);
        DUE.is("one stop, next", x.next(0, 0), NONE);
        DUE.is("one stop, way", x.way(0, 0, 0), 0);
        DUE.is("one stop, act", x.act(0, 0), BAD);
        DUE.is("one stop, profile", x.profile(0, 0, 0, 0), 1);
        steps("one stop", x, row(0, 0));
    }

    /** "All as at first: how many RIDES there were", of a full object, which can be filled again. */
    private static void promise2ClearOfAFullObject() {
        TimedWays x = new TimedWays();
        for (int round = 0; round < 2; round++) {
            fill(x, round);
            DUE.is("filled, stop", x.stop(0), FULL);
            DUE.is("filled, ride", x.ride(0, 1, 0, 1, 1), FULL);
            DUE.is("filled, walk", x.walk(0, 1, 1), FULL);
            DUE.is("filled, way", x.way(1, 0, 0), 1);
            DUE.is("filled, profile", x.profile(0, 0, 0, 600), 601);
            DUE.is("clear()", x.clear(), 40);
            DUE.is("cleared, what was told is gone", x.act(0, 0), BAD);
            DUE.is("cleared, the steps are gone", x.step(0, 0), BAD);
            DUE.is("cleared, the last step is gone", x.step(600, 0), BAD);
            DUE.is("cleared, the stops are gone", x.change(0, 0), BAD);
            DUE.is("cleared, the rides are gone", x.told(0, 0), BAD);
            for (int what = 0; what <= 4; what++) {
                DUE.is("cleared, of(" + what + ")", x.of(what), 0);
            }
        }
        x.stop(0);
        x.stop(0);
        DUE.is("no ride and no walk is left", x.reach(1, 0, LAST_BY), 2);
        DUE.is("no departure is left", x.next(0, 0), NONE);
        x.ride(0, 1, 3, 4, 1);
        DUE.is("no lateness is left", x.earliest(0, 1, 0), 7);
        DUE.is("no lateness is left, what it was", x.late(0, 0, 0), 0);
    }

    private static void fill(TimedWays x, int round) {
        for (int i = 0; i < 12; i++) {
            DUE.is("stop " + i + " of round " + round, x.stop(60), i);
        }
        for (int i = 0; i < 40; i++) {
            DUE.is("ride " + i + " of round " + round, x.ride(0, 1, i, 1, ALL_DAYS), i);
        }
        for (int i = 0; i < 30; i++) {
            DUE.is("walk " + i + " of round " + round, x.walk(1, 0, 1 + i), i);
        }
        DUE.is("late, round " + round, x.late(0, 0, 300), 0);
        DUE.is("does not go, round " + round, x.late(39, 6, NONE), 0);
    }

    /** "What is refused changes nothing": neither a number, nor a stop, ride or walk that would be the next. */
    private static void promises3To6AfterRefusals() {
        TimedWays x = new TimedWays();
        DUE.is("stop(61)", x.stop(61), BAD);
        DUE.is("stop(-1)", x.stop(-1), BAD);
        DUE.is("the first stop has number 0", x.stop(60), 0);
        DUE.is("stop(61) again", x.stop(61), BAD);
        DUE.is("the second has number 1", x.stop(0), 1);
        DUE.is("change(0, 61)", x.change(0, 61), BAD);
        DUE.is("change(2, 5)", x.change(2, 5), BAD);
        DUE.is("the change is as it was", x.change(0, 1), 60);
        DUE.is("the other one too", x.change(1, 1), 0);
        DUE.is("ride(0, 1, 0, 0, 1)", x.ride(0, 1, 0, 0, 1), BAD);
        DUE.is("ride(0, 1, 0, 1, 0)", x.ride(0, 1, 0, 1, 0), BAD);
        DUE.is("no departure was made", x.of(3), 0);
        DUE.is("the first ride has number 0", x.ride(0, 1, 5, 5, 1), 0);
        DUE.is("ride(0, 0, 5, 5, 1)", x.ride(0, 0, 5, 5, 1), BAD);
        DUE.is("the second has number 1", x.ride(1, 0, 5, 5, 1), 1);
        DUE.is("walk(0, 1, 0)", x.walk(0, 1, 0), BAD);
        DUE.is("walk(0, 1, 601)", x.walk(0, 1, 601), BAD);
        DUE.is("walk(0, 2, 1)", x.walk(0, 2, 1), BAD);
        DUE.is("no walk was made", x.earliest(0, 1, 6), NONE);
        DUE.is("the first walk has number 0", x.walk(0, 1, 600), 0);
        DUE.is("walk(1, 1, 1)", x.walk(1, 1, 1), BAD);
        DUE.is("the second has number 1", x.walk(1, 0, 1), 1);
    }

    /** "BAD first; then what a call names": a full object refuses a wrong number as BAD, not as FULL. */
    private static void promises3To6BadBeforeFull() {
        TimedWays x = new TimedWays();
        fill(x, 0);
        DUE.is("stop(-1)", x.stop(-1), BAD);
        DUE.is("stop(61)", x.stop(61), BAD);
        int[][] rides = {
            row(-1, 1, 0, 1, 1), row(12, 1, 0, 1, 1), row(0, -1, 0, 1, 1), row(0, 12, 0, 1, 1), row(3, 3, 0, 1, 1),
            row(0, 1, -1, 1, 1), row(0, 1, 1440, 1, 1), row(0, 1, 0, 0, 1), row(0, 1, 0, 1441, 1), row(0, 1, 0, 1, 0),
            row(0, 1, 0, 1, 128)
        };
        for (int[] a : rides) {
            DUE.is(Calls.text("ride", a), x.ride(a[0], a[1], a[2], a[3], a[4]), BAD);
        }
        int[][] walks = {
            row(-1, 1, 1), row(12, 1, 1), row(0, -1, 1), row(0, 12, 1), row(3, 3, 1), row(0, 1, 0), row(0, 1, 601)
        };
        for (int[] a : walks) {
            DUE.is(Calls.text("walk", a), x.walk(a[0], a[1], a[2]), BAD);
        }
        DUE.is("stop(60)", x.stop(60), FULL);
        DUE.is("ride(11, 0, 1439, 1440, 127)", x.ride(11, 0, 1439, 1440, ALL_DAYS), FULL);
        DUE.is("walk(11, 0, 600)", x.walk(11, 0, 600), FULL);
    }

    /** "0 .. 300, or does not GO (NONE): what it was", "BAD: also the RIDE does not go on that DAY". */
    private static void promise7Late() {
        TimedWays x = withStops(2, 0);
        x.ride(0, 1, 100, 10, 2);
        DUE.is("on time at first", x.late(0, 1, NONE), 0);
        DUE.is("does not go, again", x.late(0, 1, NONE), NONE);
        DUE.is("does not go, of(3)", x.of(3), 0);
        DUE.is("does not go, of(4)", x.of(4), 0);
        DUE.is("does not go, told(0, 4)", x.told(0, 4), 2);
        DUE.is("does not go, told(0, 5)", x.told(0, 5), 0);
        DUE.is("does not go, next", x.next(0, 0), NONE);
        DUE.is("does not go, earliest", x.earliest(0, 1, 0), NONE);
        DUE.is("it is a departure still", x.late(0, 1, 300), NONE);
        DUE.is("most late, leaving", x.latest(0, 1, LAST_BY), 1440 + 400);
        DUE.is("most late, arriving", x.earliest(0, 1, 0), 1440 + 410);
        DUE.is("late(0, 1, 301)", x.late(0, 1, 301), BAD);
        DUE.is("late(0, 1, -2)", x.late(0, 1, -2), BAD);
        DUE.is("late(0, 0, 5)", x.late(0, 0, 5), BAD);
        DUE.is("late(0, 2, NONE)", x.late(0, 2, NONE), BAD);
        DUE.is("late(0, 7, 5)", x.late(0, 7, 5), BAD);
        DUE.is("late(0, -1, 5)", x.late(0, -1, 5), BAD);
        DUE.is("late(1, 1, 5)", x.late(1, 1, 5), BAD);
        DUE.is("refused, of(3)", x.of(3), 1);
        DUE.is("refused, of(4)", x.of(4), 1);
        DUE.is("it is as it was", x.late(0, 1, 1), 300);
        DUE.is("late by 1, of(4)", x.of(4), 1);
        DUE.is("it was late by 1", x.late(0, 1, 0), 1);
        DUE.is("late by 0, of(4)", x.of(4), 0);
        DUE.is("late by 0 goes", x.of(3), 1);
    }

    private static TimedWays withRide100To150() {
        TimedWays x = withStops(3, 5);
        x.ride(0, 1, 100, 50, 1);
        return x;
    }

    /** "(or the same)", "BAD; NONE". */
    private static void promise8Earliest() {
        TimedWays x = withRide100To150();
        DUE.is("just then", x.earliest(0, 1, 100), 150);
        DUE.is("a minute too late", x.earliest(0, 1, 101), NONE);
        DUE.is("at time 0", x.earliest(0, 1, 0), 150);
        DUE.is("the same one at 0", x.earliest(0, 0, 0), 0);
        DUE.is("the same one at last", x.earliest(0, 0, LAST_TIME), LAST_TIME);
        DUE.is("never at 0", x.earliest(1, 0, 0), NONE);
        DUE.is("never at last", x.earliest(1, 0, LAST_TIME), NONE);
        DUE.is("BAD before NONE, -1", x.earliest(1, 0, -1), BAD);
        DUE.is("BAD before NONE, 10080", x.earliest(1, 0, 10080), BAD);
        DUE.is("the same one, -1", x.earliest(0, 0, -1), BAD);
        DUE.is("the same one, 10080", x.earliest(0, 0, 10080), BAD);
        DUE.is("the same one that is none", x.earliest(3, 3, 0), BAD);
    }

    /** "The latest TIME, 0 .. 10079, at which earliest() is not above by (0 .. 20000)". */
    private static void promise9Latest() {
        TimedWays x = withRide100To150();
        x.walk(2, 1, 20);
        DUE.is("not above", x.latest(0, 1, 150), 100);
        DUE.is("a minute above", x.latest(0, 1, 149), NONE);
        DUE.is("by is far behind", x.latest(0, 1, LAST_BY), 100);
        DUE.is("by 20001", x.latest(0, 1, 20001), BAD);
        DUE.is("by 0, the same one", x.latest(0, 0, 0), 0);
        DUE.is("by 0, another one", x.latest(0, 1, 0), NONE);
        DUE.is("by -1", x.latest(0, 0, -1), BAD);
        DUE.is("the answer is 0", x.latest(2, 1, 20), 0);
        DUE.is("the answer would be below 0", x.latest(2, 1, 19), NONE);
        DUE.is("the answer is the last time", x.latest(2, 1, LAST_TIME + 20), LAST_TIME);
        DUE.is("the answer would be above it", x.latest(2, 1, LAST_TIME + 21), LAST_TIME);
        DUE.is("a minute before it", x.latest(2, 1, LAST_TIME + 19), LAST_TIME - 1);
        DUE.is("never", x.latest(1, 0, LAST_BY), NONE);
        DUE.is("BAD before NONE", x.latest(1, 0, 20001), BAD);
    }

    /** "ends not later than by (0 .. 20000)". */
    private static void promise10Fewest() {
        TimedWays x = withRide100To150();
        DUE.is("not later", x.fewest(0, 1, 100, 150), 1);
        DUE.is("a minute later", x.fewest(0, 1, 100, 149), NONE);
        DUE.is("missed", x.fewest(0, 1, 101, LAST_BY), NONE);
        DUE.is("none is needed", x.fewest(0, 0, 7, 7), 0);
        DUE.is("by is before at", x.fewest(0, 0, 7, 6), NONE);
        DUE.is("both 0", x.fewest(0, 0, 0, 0), 0);
        DUE.is("both at their last", x.fewest(0, 0, LAST_TIME, LAST_BY), 0);
        DUE.is("at 10080", x.fewest(0, 0, 10080, LAST_BY), BAD);
        DUE.is("at -1", x.fewest(0, 0, -1, LAST_BY), BAD);
        DUE.is("by 20001", x.fewest(0, 0, 0, 20001), BAD);
        DUE.is("by -1", x.fewest(0, 0, 0, -1), BAD);
        DUE.is("BAD before NONE", x.fewest(1, 0, 0, 20001), BAD);
    }

    /** Fewer departures may end later: the fewest of those that are in time. */
    private static void promise10EachNumber() {
        TimedWays x = withStops(12, 0);
        for (int i = 0; i < 11; i++) {
            x.ride(i, i + 1, 10 * i, 10, 1);
            x.ride(0, i + 1, 0, 1440 - 100 * i, 1);
        }
        for (int i = 1; i < 11; i++) {
            int direct = 1440 - 100 * i;
            DUE.is("all in a row to " + (i + 1), x.fewest(0, i + 1, 0, 10 * i + 10), i + 1);
            DUE.is("a minute less to " + (i + 1), x.fewest(0, i + 1, 0, 10 * i + 9), NONE);
            DUE.is("not yet the direct one to " + (i + 1), x.fewest(0, i + 1, 0, direct - 1), i + 1);
            DUE.is("the direct one to " + (i + 1), x.fewest(0, i + 1, 0, direct), 1);
        }
    }

    /** "from a TIME first .. last (600 minutes apart at most; ..)", "NONE: there is none at any of these". */
    private static void promise11Fastest() {
        TimedWays x = withRide100To150();
        DUE.is("at the last time of the span", x.fastest(0, 1, 0, 100), 50);
        DUE.is("at the first time of the span", x.fastest(0, 1, 100, 700), 50);
        DUE.is("before it", x.fastest(0, 1, 0, 99), 51);
        DUE.is("at first = last", x.fastest(0, 1, 100, 100), 50);
        DUE.is("none at any of these", x.fastest(0, 1, 101, 701), NONE);
        DUE.is("at none but the first", x.fastest(0, 1, 100, 101), 50);
        DUE.is("600 apart", x.fastest(0, 1, 0, 600), 50);
        DUE.is("601 apart", x.fastest(0, 1, 0, 601), BAD);
        DUE.is("600 apart at the end", x.fastest(0, 0, 9479, LAST_TIME), 0);
        DUE.is("601 apart at the end", x.fastest(0, 0, 9478, LAST_TIME), BAD);
        DUE.is("behind the end", x.fastest(0, 0, 9480, 10080), BAD);
        DUE.is("before the beginning", x.fastest(0, 0, -1, 0), BAD);
        DUE.is("first above last", x.fastest(0, 0, 1, 0), BAD);
        DUE.is("both 0", x.fastest(0, 0, 0, 0), 0);
        DUE.is("both at last", x.fastest(0, 0, LAST_TIME, LAST_TIME), 0);
        DUE.is("BAD before NONE", x.fastest(1, 0, 0, 601), BAD);
    }

    /** "the first one, and each one at which earliest() is another one than at that before". */
    private static void promise12Profile() {
        TimedWays x = withRide100To150();
        DUE.is("one time", x.profile(0, 1, 100, 100), 1);
        steps("one time", x, row(100, 150));
        DUE.is("another one at the last time", x.profile(0, 1, 0, 101), 2);
        steps("another one at the last time", x, row(0, 150), row(101, NONE));
        DUE.is("another one at the second time", x.profile(0, 1, 100, 700), 2);
        steps("another one at the second time", x, row(100, 150), row(101, NONE));
        DUE.is("the first one, though as before", x.profile(0, 1, 50, 100), 1);
        steps("the first one, though as before", x, row(50, 150));
        DUE.is("none at any", x.profile(0, 1, 101, 701), 1);
        steps("none at any", x, row(101, NONE));
        DUE.is("all at the beginning", x.profile(2, 2, 0, 600), 601);
        DUE.is("the first step", x.step(0, 1), 0);
        DUE.is("the last step", x.step(600, 1), 600);
        DUE.is("all at the end", x.profile(2, 2, 9479, LAST_TIME), 601);
        DUE.is("the first step at the end", x.step(0, 0), 9479);
        DUE.is("the last step at the end", x.step(600, 0), LAST_TIME);
        DUE.is("no step more", x.step(601, 0), BAD);
    }

    /** "STEP i of the last profile()": a refused one is none, and fewer steps leave none of the others. */
    private static void promise13Step() {
        TimedWays x = withRide100To150();
        DUE.is("refused, and none before", x.profile(0, 1, 0, 601), BAD);
        DUE.is("no step yet", x.step(0, 0), BAD);
        x.profile(2, 2, 0, 9);
        DUE.is("the last of ten", x.step(9, 1), 9);
        DUE.is("behind the last of ten", x.step(10, 1), BAD);
        DUE.is("601 apart", x.profile(0, 1, 0, 601), BAD);
        DUE.is("first above last", x.profile(0, 1, 1, 0), BAD);
        DUE.is("no such stop", x.profile(0, 3, 0, 1), BAD);
        x.fastest(0, 1, 0, 600);
        x.stop(0);
        x.walk(0, 1, 1);
        x.late(0, 0, NONE);
        DUE.is("the last of ten stays", x.step(9, 1), 9);
        x.profile(1, 0, 0, 9);
        steps("one", x, row(0, NONE));
        DUE.is("none of the ten", x.step(9, 1), BAD);
        DUE.is("step(-1, 0)", x.step(-1, 0), BAD);
        DUE.is("step(0, -1)", x.step(0, -1), BAD);
        DUE.is("step(0, 2)", x.step(0, 2), BAD);
        DUE.is("NONE is an answer, not a refusal", x.step(0, 1), NONE);
    }

    /** "THE ARRIVAL .. not later than by (0 .. 20000)". */
    private static void promise14Reach() {
        TimedWays x = withRide100To150();
        DUE.is("not later", x.reach(0, 100, 150), 3);
        DUE.is("a minute later", x.reach(0, 100, 149), 1);
        DUE.is("missed", x.reach(0, 101, LAST_BY), 1);
        DUE.is("at once", x.reach(2, 7, 7), 4);
        DUE.is("by is before at", x.reach(2, 7, 6), 0);
        DUE.is("both 0", x.reach(0, 0, 0), 1);
        DUE.is("both at their last", x.reach(0, LAST_TIME, LAST_BY), 1);
        DUE.is("at 10080", x.reach(0, 10080, LAST_BY), BAD);
        DUE.is("at -1", x.reach(0, -1, LAST_BY), BAD);
        DUE.is("by 20001", x.reach(0, 0, 20001), BAD);
        DUE.is("by -1", x.reach(0, 0, -1), BAD);
        DUE.is("stop 3", x.reach(3, 0, 0), BAD);
        DUE.is("stop -1", x.reach(-1, 0, 0), BAD);
    }

    /** "NONE: there is no THE ARRIVAL (what was told before stays)". */
    private static void promise15Way() {
        TimedWays x = withRide100To150();
        DUE.is("none, and none before", x.way(0, 1, 101), NONE);
        DUE.is("nothing is told", x.act(0, 0), BAD);
        DUE.is("just then", x.way(0, 1, 100), 1);
        acts("just then", x, row(1, 0, 0, 100, 150));
        DUE.is("a minute too late", x.way(0, 1, 101), NONE);
        acts("a minute too late, what was told before stays", x, row(1, 0, 0, 100, 150));
        DUE.is("never", x.way(1, 0, 0), NONE);
        acts("never, what was told before stays", x, row(1, 0, 0, 100, 150));
        DUE.is("at 10080", x.way(0, 0, 10080), BAD);
        DUE.is("at -1", x.way(0, 0, -1), BAD);
        DUE.is("to stop 3", x.way(0, 3, 0), BAD);
        DUE.is("from stop -1", x.way(-1, 0, 0), BAD);
        acts("refused, what was told before stays", x, row(1, 0, 0, 100, 150));
        DUE.is("BAD before NONE", x.way(1, 0, 10080), BAD);
        DUE.is("without acts", x.way(1, 1, LAST_TIME), 0);
        acts("without acts, nothing of before", x);
        DUE.is("never, behind one without acts", x.way(1, 0, 0), NONE);
        acts("never, behind one without acts", x);
    }

    /** "Of ACT i, from 0 in order, of THE WAY that was told last": fewer acts leave none of the others. */
    private static void promise16Act() {
        TimedWays x = withRide100To150();
        x.walk(1, 2, 600);
        DUE.is("two acts", x.way(0, 2, 0), 2);
        acts("two acts", x, row(1, 0, 0, 100, 150), row(0, 0, NONE, 150, 750));
        DUE.is("act(-1, 0)", x.act(-1, 0), BAD);
        DUE.is("act(2, 4)", x.act(2, 4), BAD);
        DUE.is("act(0, -1)", x.act(0, -1), BAD);
        DUE.is("act(0, 5)", x.act(0, 5), BAD);
        DUE.is("act(1, 5)", x.act(1, 5), BAD);
        x.earliest(1, 2, 0);
        x.profile(1, 2, 0, 600);
        x.fewest(1, 2, 0, 600);
        x.reach(1, 0, 600);
        x.latest(1, 2, 600);
        x.change(1, 60);
        x.late(0, 0, 7);
        acts("they stay as they were told", x, row(1, 0, 0, 100, 150), row(0, 0, NONE, 150, 750));
        DUE.is("told again", x.way(0, 2, 0), 2);
        acts("told again", x, row(1, 0, 0, 107, 157), row(0, 0, NONE, 157, 757));
        DUE.is("one act", x.way(1, 2, LAST_TIME), 1);
        acts("one act", x, row(0, 0, NONE, LAST_TIME, LAST_TIME + 600));
    }

    /** "LEAVES a STOP first, a TIME or later, of several the first one in order". */
    private static void promise17Next() {
        TimedWays x = withStops(2, 0);
        x.ride(0, 1, 1439, 1, LAST_DAY);
        x.ride(0, 1, 0, 1, 1);
        DUE.is("at the first time", x.next(0, 0), 7);
        DUE.is("a minute later", x.next(0, 1), 6);
        DUE.is("at the last time", x.next(0, LAST_TIME), 6);
        DUE.is("from where none leaves", x.next(1, 0), NONE);
        DUE.is("at 10080", x.next(0, 10080), BAD);
        DUE.is("at -1", x.next(0, -1), BAD);
        DUE.is("stop 2", x.next(2, 0), BAD);
        DUE.is("stop -1", x.next(-1, 0), BAD);
        DUE.is("BAD before NONE", x.next(1, 10080), BAD);
        x.late(0, 6, NONE);
        DUE.is("it does not go", x.next(0, LAST_TIME), NONE);
        x.late(0, 6, 300);
        DUE.is("it leaves behind the last time", x.next(0, LAST_TIME), 6);
        severalAtOneTime();
    }

    private static void severalAtOneTime() {
        TimedWays x = withStops(2, 0);
        x.ride(0, 1, 300, 9, 2);
        x.ride(0, 1, 300, 1, 2);
        x.ride(0, 1, 1439, 1, 1);
        DUE.is("several", x.next(0, 1440), 1);
        x.late(2, 0, 300);
        DUE.is("a minute earlier, though the last in order", x.next(0, 1440), 14);
        x.late(0, 1, NONE);
        DUE.is("another one", x.next(0, 1740), 7 + 1);
        x.late(0, 1, 0);
        DUE.is("several again", x.next(0, 1740), 1);
        x.late(0, 1, 1);
        DUE.is("a minute late", x.next(0, 1740), 7 + 1);
        DUE.is("that one", x.next(0, 1741), 1);
    }

    /** "what = 0 from, 1 to, 2 MINUTE, 3 how long it takes, 4 its DAYS, 5 those on which it GOES". */
    private static void promise18Told() {
        TimedWays x = withStops(12, 0);
        DUE.is("no ride", x.told(0, 0), BAD);
        x.ride(11, 0, 1439, 1440, ALL_DAYS);
        x.ride(0, 11, 0, 1, 1);
        int[][] want = {row(11, 0, 1439, 1440, ALL_DAYS, ALL_DAYS), row(0, 11, 0, 1, 1, 1)};
        for (int ride = 0; ride < 2; ride++) {
            for (int what = 0; what <= 5; what++) {
                DUE.is("told(" + ride + ", " + what + ")", x.told(ride, what), want[ride][what]);
            }
        }
        DUE.is("told(2, 0)", x.told(2, 0), BAD);
        DUE.is("told(-1, 0)", x.told(-1, 0), BAD);
        DUE.is("told(0, -1)", x.told(0, -1), BAD);
        DUE.is("told(0, 6)", x.told(0, 6), BAD);
        for (int day = 0; day < 7; day++) {
            x.late(0, day, NONE);
            DUE.is("days on which it goes, without " + day, x.told(0, 5), ALL_DAYS - (2 << day) + 1);
        }
        x.late(0, 6, 300);
        DUE.is("late is going", x.told(0, 5), LAST_DAY);
        DUE.is("its minute is not later", x.told(0, 2), 1439);
        DUE.is("its days are all", x.told(0, 4), ALL_DAYS);
    }

    /** "3 DEPARTURES that GO, 4 those of them that are LATE by 1 or more". */
    private static void promise19Of() {
        TimedWays x = withStops(2, 0);
        x.ride(0, 1, 0, 1, 3);
        DUE.is("both go", x.of(3), 2);
        x.late(0, 0, 0);
        DUE.is("late by 0 is on time", x.of(4), 0);
        x.late(0, 0, 1);
        DUE.is("late by 1", x.of(4), 1);
        DUE.is("late by 1 goes", x.of(3), 2);
        x.late(0, 0, NONE);
        DUE.is("what does not go is not late", x.of(4), 0);
        DUE.is("what does not go", x.of(3), 1);
        x.late(0, 1, NONE);
        DUE.is("none goes", x.of(3), 0);
        DUE.is("the ride is there still", x.of(1), 1);
        DUE.is("of(-1)", x.of(-1), BAD);
        DUE.is("of(5)", x.of(5), BAD);
    }

    private static void useAndTerms() {
        useFiveHundredAndTwelveCalls();
        useTheLastOfEach();
        termsAllDepartures();
        termsEachDay();
        termsEndsOfTheWeek();
        termsLateOverMidnight();
        termsChange();
        termsNoChangeBehindAWalk();
        termsWalkBehindADeparture();
        termsWalks();
        termsTheLatestEndOfAll();
        termsTheMostActs();
        termsWalkAndRideAtOneTime();
        termsTheFirstThatMayBeTaken();
        termsTheFirstThatGoes();
        termsDaysOfOneRideAlone();
        termsTheWalkWithTheLeastNumber();
    }

    private static void promises() {
        promise1NewObject();
        promise1OneStop();
        promise2ClearOfAFullObject();
        promises3To6AfterRefusals();
        promises3To6BadBeforeFull();
        promise7Late();
        promise8Earliest();
        promise9Latest();
        promise10Fewest();
        promise10EachNumber();
        promise11Fastest();
        promise12Profile();
        promise13Step();
        promise14Reach();
        promise15Way();
        promise16Act();
        promise17Next();
        promise18Told();
        promise19Of();
    }

    public static void main(String[] args) {
        useAndTerms();
        promises();
        DUE.end();
    }
}
