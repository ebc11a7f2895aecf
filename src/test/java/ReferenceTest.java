import java.util.Random;

/** Runs of up to 512 calls that a fixed seed makes, each answer held against the reference's. */
public final class ReferenceTest {
    private static final String[] BUILD = {"stop", "change", "ride", "ride", "ride", "walk", "late"};
    private static final String[] ASK = {
        "change", "late", "late", "earliest", "earliest", "latest", "fewest", "fewest", "fastest", "profile", "step",
        "reach", "way", "way", "act", "next", "told", "of"
    };
    /** For runs in any order: what builds comes often enough that there is something to ask for. */
    private static final String[] ANY = {
        "stop", "stop", "change", "ride", "ride", "ride", "ride", "walk", "walk", "late", "late", "late", "earliest",
        "latest", "fewest", "fastest", "profile", "step", "step", "reach", "way", "way", "act", "act", "act", "next",
        "told", "of"
    };
    private static final int MOST_CALLS = 512;
    private static final int[] ODD = {
        Integer.MIN_VALUE, -10080, -3, -2, -1, 0, 1, 2, 5, 6, 7, 11, 12, 13, 39, 40, 60, 61, 127, 128, 300, 301, 600, 601,
        1439, 1440, 1441, 10079, 10080, 20000, 20001, 1 << 30, Integer.MAX_VALUE
    };

    private final Due due;
    private final Random random;
    private final TimedWays program = new TimedWays();
    private final Reference reference = new Reference();
    private final StringBuilder calls = new StringBuilder();
    /** How far apart the numbers of this run lie: close ones make many ties. */
    private final int stops, rides, walks, minutes, takes, changes;
    private final int dayMask;
    private final boolean odd;
    private int made = 0;

    private ReferenceTest(Due due, long seed) {
        this.due = due;
        random = new Random(seed);
        boolean large = seed % 4 == 3;
        odd = seed % 5 == 4;
        stops = large ? 12 : 2 + random.nextInt(4);
        rides = large ? 40 : 1 + random.nextInt(10);
        walks = large ? 30 : random.nextInt(6);
        minutes = new int[] {10, 40, 200, 1440}[random.nextInt(4)];
        takes = new int[] {3, 20, 100, 1440}[random.nextInt(4)];
        changes = new int[] {1, 6, 61}[random.nextInt(3)];
        dayMask = random.nextBoolean() ? 127 : 1 + random.nextInt(127);
    }

    private int number(int bound) {
        if (odd && random.nextInt(12) == 0) return ODD[random.nextInt(ODD.length)];
        return random.nextInt(bound);
    }

    private int stop() {
        return number(random.nextInt(40) == 0 ? stops + 1 : stops);
    }

    private int time() {
        int busy = random.nextInt(7) * 1440 + random.nextInt(minutes);
        if (odd && random.nextInt(12) == 0) return ODD[random.nextInt(ODD.length)];
        return random.nextInt(4) == 0 ? random.nextInt(10080) : Math.max(0, busy - random.nextInt(takes));
    }

    private int by(int at) {
        if (random.nextInt(8) == 0) return number(20001);
        return at + random.nextInt(1 + 4 * takes);
    }

    private int last(int first) {
        int longest = random.nextInt(10) == 0 ? 602 : 30;
        return first + random.nextInt(longest) - (random.nextInt(15) == 0 ? 3 : 0);
    }

    private int[] arguments(String call) {
        int at = time();
        switch (call) {
            case "stop": return new int[] {number(changes)};
            case "change": return new int[] {stop(), number(changes)};
            case "ride": return new int[] {stop(), stop(), number(minutes), 1 + number(takes), days()};
            case "walk": return new int[] {stop(), stop(), 1 + number(Math.min(600, takes))};
            case "late": return new int[] {number(rides), number(7), lateness()};
            case "earliest": case "way": return new int[] {stop(), stop(), at};
            case "latest": return new int[] {stop(), stop(), by(at)};
            case "fewest": return new int[] {stop(), stop(), at, by(at)};
            case "fastest": case "profile": return new int[] {stop(), stop(), at, last(at)};
            case "reach": return new int[] {stop(), at, by(at)};
            case "step": return new int[] {number(6), number(2)};
            case "act": return new int[] {number(5), number(5)};
            case "next": return new int[] {stop(), at};
            case "told": return new int[] {number(rides), number(6)};
            case "of": return new int[] {number(5)};
            default: return new int[0];
        }
    }

    private int days() {
        if (odd && random.nextInt(12) == 0) return ODD[random.nextInt(ODD.length)];
        int days = 1 + random.nextInt(127) & dayMask;
        return days == 0 ? dayMask : days;
    }

    private int lateness() {
        return random.nextInt(3) == 0 ? -1 : number(random.nextBoolean() ? 301 : 8);
    }

    private int call(String name, int... a) {
        // The document promises nothing about what comes later.
        if (made == MOST_CALLS) return Reference.BAD;
        made++;
        String text = Calls.text(name, a);
        calls.append(text).append(' ');
        boolean before = due.hasWrong();
        int answer = Calls.of(program, name, a);
        due.is(text, answer, Calls.of(reference, name, a));
        if (!before && due.hasWrong()) System.out.println(calls);
        return answer;
    }

    private void compareTold(int acts) {
        for (int i = 0; i <= acts; i++) {
            for (int what = -1; what <= 5; what++) call("act", i, what);
        }
    }

    /** Of many steps the first and the last ones, so that calls are left for more. */
    private void compareSteps(int count) {
        for (int i = 0; i <= count; i++) {
            if (i > 10 && i < count - 1) continue;
            for (int what = -1; what <= 2; what++) call("step", i, what);
        }
    }

    private void ask(String name) {
        int[] a = arguments(name);
        int answer = call(name, a);
        if (name.equals("way")) compareTold(answer);
        if (name.equals("profile")) compareSteps(answer);
        if (name.equals("earliest") && answer != Reference.BAD) {
            due.is("the reference's own second way", reference.quickEarliest(a[0], a[1], a[2]), answer);
        }
    }

    private void build() {
        for (int i = 0; i < stops; i++) call("stop", arguments("stop"));
        for (int i = 0; i < walks; i++) call("walk", arguments("walk"));
        for (int i = 0; i < rides; i++) call("ride", arguments("ride"));
        for (int i = 0; i < rides; i++) call("late", arguments("late"));
    }

    private void run(int questions) {
        build();
        for (int i = 0; i < questions; i++) {
            ask(ASK[random.nextInt(ASK.length)]);
            if (random.nextInt(15) == 0) call(BUILD[random.nextInt(BUILD.length)], new int[] {stop(), stop(), 3, 4, 5});
            if (random.nextInt(15) == 0) {
                String more = BUILD[random.nextInt(BUILD.length)];
                call(more, arguments(more));
            }
        }
        if (random.nextBoolean()) {
            call("clear");
            call("act", 0, 0);
            call("step", 0, 0);
            for (int what = -1; what <= 5; what++) call("of", what);
            build();
            for (int i = 0; i < questions; i++) ask(ASK[random.nextInt(ASK.length)]);
        }
    }

    /** From a new object on, with no regard to what has been built until then. */
    private void runInAnyOrder() {
        while (made < MOST_CALLS) {
            String name = random.nextInt(150) == 0 ? "clear" : ANY[random.nextInt(ANY.length)];
            call(name, arguments(name));
        }
    }

    public static void main(String[] args) {
        long first = args.length > 0 ? Long.parseLong(args[0]) : 0;
        long runs = args.length > 1 ? Long.parseLong(args[1]) : 150;
        Due due = new Due("ReferenceTest");
        for (long seed = first; seed < first + runs && !due.hasWrong(); seed++) {
            ReferenceTest test = new ReferenceTest(due, seed);
            if (seed % 6 == 5) test.runInAnyOrder();
            else test.run(30);
        }
        due.end();
    }
}
