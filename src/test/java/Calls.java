import java.util.Arrays;

/** The calls of the face by their names, so that tests can hold them in tables. */
final class Calls {
    private Calls() {
    }

    static String text(String name, int... a) {
        String numbers = Arrays.toString(a);
        return name + "(" + numbers.substring(1, numbers.length() - 1) + ")";
    }

    static int of(TimedWays x, String name, int... a) {
        switch (name) {
            case "clear": return x.clear();
            case "stop": return x.stop(a[0]);
            case "change": return x.change(a[0], a[1]);
            case "ride": return x.ride(a[0], a[1], a[2], a[3], a[4]);
            case "walk": return x.walk(a[0], a[1], a[2]);
            case "late": return x.late(a[0], a[1], a[2]);
            case "earliest": return x.earliest(a[0], a[1], a[2]);
            case "latest": return x.latest(a[0], a[1], a[2]);
            case "fewest": return x.fewest(a[0], a[1], a[2], a[3]);
            case "fastest": return x.fastest(a[0], a[1], a[2], a[3]);
            case "profile": return x.profile(a[0], a[1], a[2], a[3]);
            case "step": return x.step(a[0], a[1]);
            case "reach": return x.reach(a[0], a[1], a[2]);
            case "way": return x.way(a[0], a[1], a[2]);
            case "act": return x.act(a[0], a[1]);
            case "next": return x.next(a[0], a[1]);
            case "told": return x.told(a[0], a[1]);
            case "of": return x.of(a[0]);
            default: throw new IllegalArgumentException(name);
        }
    }

    static int of(Reference x, String name, int... a) {
        switch (name) {
            case "clear": return x.clear();
            case "stop": return x.stop(a[0]);
            case "change": return x.change(a[0], a[1]);
            case "ride": return x.ride(a[0], a[1], a[2], a[3], a[4]);
            case "walk": return x.walk(a[0], a[1], a[2]);
            case "late": return x.late(a[0], a[1], a[2]);
            case "earliest": return x.earliest(a[0], a[1], a[2]);
            case "latest": return x.latest(a[0], a[1], a[2]);
            case "fewest": return x.fewest(a[0], a[1], a[2], a[3]);
            case "fastest": return x.fastest(a[0], a[1], a[2], a[3]);
            case "profile": return x.profile(a[0], a[1], a[2], a[3]);
            case "step": return x.step(a[0], a[1]);
            case "reach": return x.reach(a[0], a[1], a[2]);
            case "way": return x.way(a[0], a[1], a[2]);
            case "act": return x.act(a[0], a[1]);
            case "next": return x.next(a[0], a[1]);
            case "told": return x.told(a[0], a[1]);
            case "of": return x.of(a[0]);
            default: throw new IllegalArgumentException(name);
        }
    }
}
