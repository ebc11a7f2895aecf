import java.util.ArrayList;
import java.util.Arrays;
import java.util.List;

/**
 * The bounds of every number of every call: the last one within and the first one beyond, on both sides, in objects
 * with little in them, full ones, and empty ones. After a refused call an object answers as if it had not been made.
 */
public final class BoundsTest {
    private static final int NONE = TimedWays.NONE, BAD = TimedWays.BAD, FULL = TimedWays.FULL;
    private static final int LOW = Integer.MIN_VALUE, HIGH = Integer.MAX_VALUE;
    private static final int LAST_TIME = 10079, LAST_BY = 20000, ALL_DAYS = 127;
    private static final Due DUE = new Due("BoundsTest");

    /** Calls that build an object, so that it can be built again. */
    private static final class Recipe {
        final String name;
        final List<String> calls = new ArrayList<>();
        final List<int[]> numbers = new ArrayList<>();
        final Reference reference = new Reference();
        int acts = 0;
        int steps = 0;

        Recipe(String name) {
            this.name = name;
        }

        Recipe with(String call, int... a) {
            calls.add(call);
            numbers.add(a);
            int answer = Calls.of(reference, call, a);
            acts = call.equals("clear") ? 0 : call.equals("way") ? answer : acts;
            steps = call.equals("clear") ? 0 : call.equals("profile") ? answer : steps;
            return this;
        }

        TimedWays built() {
            TimedWays x = new TimedWays();
            for (int i = 0; i < calls.size(); i++) Calls.of(x, calls.get(i), numbers.get(i));
            return x;
        }

        Reference builtReference() {
            Reference x = new Reference();
            for (int i = 0; i < calls.size(); i++) Calls.of(x, calls.get(i), numbers.get(i));
            return x;
        }
    }

    private static Recipe small() {
        Recipe o = new Recipe("small");
        o.with("stop", 5).with("stop", 10).with("stop", 0);
        o.with("ride", 0, 1, 480, 60, ALL_DAYS).with("ride", 1, 2, 550, 30, 5);
        o.with("walk", 0, 1, 100);
        o.with("late", 0, 3, 300).with("late", 0, 4, NONE).with("late", 1, 0, 5);
        return o.with("way", 0, 2, 480).with("profile", 0, 1, 400, 500);
    }

    private static Recipe full(String name) {
        Recipe o = new Recipe(name);
        for (int i = 0; i < 12; i++) o.with("stop", i * 17 % 61);
        for (int i = 0; i < 40; i++) {
            int days = i == 39 ? ALL_DAYS : i * 58 % 128 | 1;
            o.with("ride", i % 12, (i % 12 + 1 + i % 11) % 12, i * 37 % 1440, 1 + i * 53 % 1440, days);
        }
        for (int i = 0; i < 30; i++) o.with("walk", i * 7 % 12, (i * 7 + 1 + i % 11) % 12, 1 + i * 41 % 600);
        o.with("late", 39, 6, 300).with("late", 39, 5, NONE).with("late", 0, 0, 1).with("late", 17, 0, NONE);
        return o.with("profile", 0, 11, 0, 600).with("way", 0, 11, 0);
    }

    private final Recipe object;
    private final List<Integer> untouched;
    private final int lastStop;
    private final int lastRide;

    private BoundsTest(Recipe object) {
        this.object = object;
        untouched = look(object.built());
        lastStop = object.reference.of(0) - 1;
        lastRide = object.reference.of(1) - 1;
        DUE.is(object.name + ": calls until now", object.calls.size() + 2 + untouched.size() <= 512 ? 1 : 0, 1);
    }

    /** What an object answers to many calls; those that change it come last. */
    private static List<Integer> look(TimedWays x) {
        List<Integer> answers = new ArrayList<>();
        lookAtWhatWasTold(x, answers);
        for (int what = 0; what <= 4; what++) answers.add(x.of(what));
        for (int ride = 0; ride < 40; ride++) answers.add(x.told(ride, 5));
        for (int what = 0; what <= 4; what++) answers.add(x.told(1, what));
        for (int stop = 0; stop < 12; stop++) {
            answers.add(x.next(stop, 0));
            answers.add(x.next(stop, 8000));
            answers.add(x.earliest(0, stop, 300));
            answers.add(x.latest(0, stop, 9000));
            answers.add(x.fewest(0, stop, 0, LAST_BY));
            answers.add(x.fastest(0, stop, 0, 600));
            answers.add(x.reach(stop, 1000, 3000));
        }
        lookByChanging(x, answers);
        return answers;
    }

    private static void lookAtWhatWasTold(TimedWays x, List<Integer> answers) {
        for (int act = 0; act < 8; act++) {
            for (int what = 0; what <= 4; what++) answers.add(x.act(act, what));
        }
        for (int step : new int[] {0, 1, 2, 5, 60, 61, 100, 300, 600}) {
            answers.add(x.step(step, 0));
            answers.add(x.step(step, 1));
        }
    }

    private static void lookByChanging(TimedWays x, List<Integer> answers) {
        for (int stop = 0; stop < 12; stop++) answers.add(x.change(stop, 1));
        for (int ride = 0; ride < 40; ride++) answers.add(x.late(ride, 0, 7));
        answers.add(x.stop(1));
        answers.add(x.ride(0, 1, 1, 1, 1));
        answers.add(x.walk(0, 1, 1));
        answers.add(x.clear());
    }

    private void refused(int want, String call, int... a) {
        TimedWays x = object.built();
        String text = object.name + ": " + Calls.text(call, a);
        DUE.is(text, Calls.of(x, call, a), want);
        List<Integer> touched = look(x);
        int differences = 0;
        for (int i = 0; i < touched.size(); i++) {
            if (!touched.get(i).equals(untouched.get(i))) differences++;
        }
        DUE.is(text + " is refused, later answers that it changed", differences, 0);
    }

    private void accepted(String call, int... a) {
        int answer = Calls.of(object.built(), call, a);
        String text = object.name + ": " + Calls.text(call, a);
        DUE.is(text + " is BAD", answer == BAD ? 1 : 0, 0);
        DUE.is(text, answer, Calls.of(object.builtReference(), call, a));
    }

    /** One number of a call whose other numbers are within their bounds. */
    private void number(int place, int least, int most, String call, int... good) {
        int[] a = good.clone();
        for (int within : new int[] {least, most}) {
            a[place] = within;
            accepted(call, a);
        }
        // Sums with powers of two are within the bounds again, if someone keeps the low bits alone.
        for (int beyond : new int[] {least - 1, most + 1, LOW, HIGH, LOW + least, least - 256, most + 256, most + 65536}) {
            if (beyond >= least && beyond <= most) continue;
            a[place] = beyond;
            refused(BAD, call, a);
        }
    }

    private void numbersOfBuilding() {
        number(0, 0, 60, "stop", 5);
        number(0, 0, lastStop, "change", 1, 5);
        number(1, 0, 60, "change", lastStop, 5);
        number(0, 0, lastStop, "ride", 0, 1, 100, 10, ALL_DAYS);
        number(1, 0, lastStop, "ride", 1, 0, 100, 10, ALL_DAYS);
        number(2, 0, 1439, "ride", 0, lastStop, 100, 10, ALL_DAYS);
        number(3, 1, 1440, "ride", lastStop, 0, 100, 10, 1);
        number(4, 1, ALL_DAYS, "ride", 0, 1, 1439, 1440, 1);
        number(0, 0, lastStop, "walk", 0, 1, 10);
        number(1, 0, lastStop, "walk", 1, 0, 10);
        number(2, 1, 600, "walk", lastStop, 0, 10);
        number(0, 0, lastRide, "late", 0, 0, 5);
        int everyDay = lastRide == 39 ? 39 : 0;
        number(1, 0, 6, "late", everyDay, 0, 5);
        number(2, NONE, 300, "late", everyDay, 6, 5);
        for (int stop = 0; stop <= lastStop; stop++) {
            refused(BAD, "ride", stop, stop, 100, 10, ALL_DAYS);
            refused(BAD, "walk", stop, stop, 10);
        }
    }

    private void numbersOfStopsAndTimes() {
        for (String call : new String[] {"earliest", "way"}) {
            number(0, 0, lastStop, call, 0, 1, 0);
            number(1, 0, lastStop, call, 0, 1, 0);
            number(2, 0, LAST_TIME, call, 0, lastStop, 0);
            number(2, 0, LAST_TIME, call, lastStop, 0, 0);
            number(2, 0, LAST_TIME, call, 0, 0, 0);
        }
        number(0, 0, lastStop, "latest", 0, 1, 1000);
        number(1, 0, lastStop, "latest", 0, 1, 1000);
        number(2, 0, LAST_BY, "latest", 0, lastStop, 1000);
        number(2, 0, LAST_BY, "latest", lastStop, 0, 1000);
        number(0, 0, lastStop, "fewest", 0, 1, 0, 1000);
        number(1, 0, lastStop, "fewest", 0, 1, 0, 1000);
        number(2, 0, LAST_TIME, "fewest", 0, lastStop, 0, LAST_BY);
        number(2, 0, LAST_TIME, "fewest", lastStop, 0, 0, 0);
        number(3, 0, LAST_BY, "fewest", 0, lastStop, 0, 1000);
        number(3, 0, LAST_BY, "fewest", lastStop, 0, LAST_TIME, 1000);
        number(0, 0, lastStop, "reach", 0, 0, 1000);
        number(1, 0, LAST_TIME, "reach", 0, 0, LAST_BY);
        number(1, 0, LAST_TIME, "reach", lastStop, 0, 0);
        number(2, 0, LAST_BY, "reach", 0, 0, 1000);
        number(2, 0, LAST_BY, "reach", lastStop, LAST_TIME, 1000);
        number(0, 0, lastStop, "next", 0, 0);
        number(1, 0, LAST_TIME, "next", 0, 0);
        number(1, 0, LAST_TIME, "next", lastStop, 0);
    }

    private void numbersOfSpans() {
        for (String call : new String[] {"fastest", "profile"}) {
            number(0, 0, lastStop, call, 0, 1, 100, 200);
            number(1, 0, lastStop, call, 0, 1, 100, 200);
            number(2, 0, 200, call, 0, 1, 100, 200);
            number(3, 100, 700, call, 0, 1, 100, 200);
            number(2, 400, 1000, call, 0, lastStop, 1000, 1000);
            number(3, 1000, 1600, call, lastStop, 0, 1000, 1000);
            number(2, 0, 0, call, 0, 1, 0, 0);
            number(3, 0, 600, call, 0, 1, 0, 0);
            number(2, LAST_TIME - 600, LAST_TIME, call, 0, 1, LAST_TIME, LAST_TIME);
            number(3, LAST_TIME, LAST_TIME, call, 0, 1, LAST_TIME, LAST_TIME);
            number(3, LAST_TIME - 600, LAST_TIME, call, 0, 1, LAST_TIME - 600, LAST_TIME);
            refused(BAD, call, 0, 1, LAST_TIME + 1, LAST_TIME + 1);
            refused(BAD, call, 0, 1, -1, -1);
            refused(BAD, call, 0, 1, LOW, HIGH);
            refused(BAD, call, 0, 1, HIGH, LOW);
            refused(BAD, call, 0, 1, LOW, LOW);
            refused(BAD, call, 0, 1, HIGH, HIGH);
        }
    }

    private void numbersOfWhat() {
        number(0, 0, object.steps - 1, "step", 0, 0);
        number(0, 0, object.steps - 1, "step", 0, 1);
        number(1, 0, 1, "step", 0, 0);
        number(1, 0, 1, "step", object.steps - 1, 0);
        number(0, 0, object.acts - 1, "act", 0, 0);
        number(0, 0, object.acts - 1, "act", 0, 4);
        number(1, 0, 4, "act", 0, 0);
        number(1, 0, 4, "act", object.acts - 1, 0);
        number(0, 0, lastRide, "told", 0, 0);
        number(0, 0, lastRide, "told", 0, 5);
        number(1, 0, 5, "told", 0, 0);
        number(1, 0, 5, "told", lastRide, 0);
        number(0, 0, 4, "of", 0);
    }

    private static final Object[][] CALLS = {
        {"change", 2}, {"ride", 5}, {"walk", 3}, {"late", 3}, {"earliest", 3}, {"latest", 3}, {"fewest", 4}, {"fastest", 4},
        {"profile", 4}, {"step", 2}, {"reach", 3}, {"way", 3}, {"act", 2}, {"next", 2}, {"told", 2}
    };

    private void allNumbersAreBad() {
        for (Object[] call : CALLS) {
            for (int number : new int[] {LOW, -65536, -3, -2, 65536, HIGH}) {
                int[] a = new int[(Integer) call[1]];
                Arrays.fill(a, number);
                refused(BAD, (String) call[0], a);
            }
        }
    }

    /** Without stops there is nothing that a number could name. */
    private void nothingCanBeNamed() {
        for (Object[] call : CALLS) {
            for (int number : new int[] {-1, 0, 1, 2}) {
                int[] a = new int[(Integer) call[1]];
                Arrays.fill(a, number);
                refused(BAD, (String) call[0], a);
            }
        }
        refused(BAD, "ride", 0, 1, 0, 1, 1);
        refused(BAD, "walk", 0, 1, 1);
        number(0, 0, 60, "stop", 5);
        number(0, 0, 4, "of", 0);
        for (int what = 0; what <= 4; what++) refused(0, "of", what);
        refused(0, "clear");
    }

    private void noRoomForMore() {
        for (int change : new int[] {0, 60}) refused(FULL, "stop", change);
        refused(FULL, "ride", 0, 1, 0, 1, 1);
        refused(FULL, "ride", 11, 10, 1439, 1440, ALL_DAYS);
        refused(FULL, "walk", 0, 1, 1);
        refused(FULL, "walk", 11, 10, 600);
    }

    /** What asks and tells nothing leaves all as it is, whatever it answers. */
    private void askingChangesNothing() {
        for (int stop = 0; stop <= lastStop; stop++) {
            TimedWays x = object.built();
            x.earliest(stop, 0, 0);
            x.latest(stop, 0, LAST_BY);
            x.fewest(stop, 0, 0, LAST_BY);
            x.fastest(stop, 0, 0, 600);
            x.reach(stop, 0, LAST_BY);
            x.next(stop, 0);
            DUE.is(object.name + ": asking from " + stop + " changed nothing", look(x).equals(untouched) ? 1 : 0, 1);
        }
    }

    private void noWayLeavesWhatWasTold() {
        for (int from = 0; from <= lastStop; from++) {
            for (int to = 0; to <= lastStop; to++) {
                if (object.builtReference().way(from, to, LAST_TIME) == NONE) refused(NONE, "way", from, to, LAST_TIME);
            }
        }
    }

    private void numbers() {
        numbersOfBuilding();
        numbersOfStopsAndTimes();
        numbersOfSpans();
        numbersOfWhat();
        allNumbersAreBad();
        askingChangesNothing();
        noWayLeavesWhatWasTold();
    }

    public static void main(String[] args) {
        new BoundsTest(small()).numbers();
        BoundsTest full = new BoundsTest(full("full"));
        full.numbers();
        full.noRoomForMore();
        BoundsTest empty = new BoundsTest(new Recipe("empty"));
        empty.nothingCanBeNamed();
        empty.allNumbersAreBad();
        BoundsTest cleared = new BoundsTest(full("cleared").with("clear"));
        cleared.nothingCanBeNamed();
        cleared.allNumbersAreBad();
        DUE.is("cleared: as at first", cleared.untouched.equals(empty.untouched) ? 1 : 0, 1);
        DUE.end();
    }
}
