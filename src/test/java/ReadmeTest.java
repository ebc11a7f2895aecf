import java.io.IOException;
import java.nio.file.Files;
import java.nio.file.Path;
import java.util.ArrayList;
import java.util.HashMap;
import java.util.List;
import java.util.Map;
import java.util.Set;
import java.util.TreeSet;
import java.util.regex.Matcher;
import java.util.regex.Pattern;
import java.util.stream.Stream;

/** What README.md shows holds: its calls, its commands, and its list of tests. Run at the root of the project. */
public final class ReadmeTest {
    private static final Due DUE = new Due("ReadmeTest");
    private static final Pattern CALL =
        Pattern.compile("(?:int (\\w+) = )?x\\.(\\w+)\\(([^()]*)\\); +// (-?\\d+)(?:: .*)?");
    private static final Set<String> FACE = Set.of(
        "clear", "stop", "change", "ride", "walk", "late", "earliest", "latest", "fewest", "fastest", "profile", "step",
        "reach", "way", "act", "next", "told", "of");

    private final Map<String, Integer> names = new HashMap<>();
    private final Set<String> called = new TreeSet<>();
    private TimedWays x = null;

    /** The lines of all blocks of one language, but for empty ones. */
    private static List<String> blocks(String language) throws IOException {
        Matcher block = Pattern.compile("(?s)```" + language + "\n(.*?)```").matcher(Files.readString(Path.of("README.md")));
        List<String> lines = new ArrayList<>();
        while (block.find()) {
            block.group(1).lines().filter(line -> !line.isBlank()).forEach(lines::add);
        }
        return lines;
    }

    private int number(String text) {
        if (text.equals("TimedWays.NONE")) return TimedWays.NONE;
        return names.containsKey(text) ? names.get(text) : Integer.parseInt(text);
    }

    private int[] numbers(String text) {
        if (text.isEmpty()) return new int[0];
        String[] parts = text.split(", ");
        int[] all = new int[parts.length];
        for (int i = 0; i < parts.length; i++) all[i] = number(parts[i]);
        return all;
    }

    private void line(String text) {
        if (text.equals("TimedWays x = new TimedWays();")) {
            x = new TimedWays();
            return;
        }
        Matcher call = CALL.matcher(text);
        boolean understood = x != null && call.matches();
        DUE.is("README.md's line '" + text + "' is a call with its answer", understood ? 1 : 0, 1);
        if (!understood) return;
        int answer = Calls.of(x, call.group(2), numbers(call.group(3)));
        DUE.is("README.md's line '" + text + "'", answer, Integer.parseInt(call.group(4)));
        if (call.group(1) != null) names.put(call.group(1), answer);
        called.add(call.group(2));
    }

    private void callsAnswerSo() throws IOException {
        for (String text : blocks("java")) line(text);
        for (String name : FACE) DUE.is("README.md shows " + name, called.contains(name) ? 1 : 0, 1);
    }

    /** But for .ci/run, which runs this test. */
    private static void commandsWork() throws IOException, InterruptedException {
        List<String> commands = blocks("sh");
        DUE.is("README.md names .ci/run", commands.remove(".ci/run") ? 1 : 0, 1);
        DUE.is(".ci/run can be run", Files.isExecutable(Path.of(".ci/run")) ? 1 : 0, 1);
        DUE.is("README.md names other commands", commands.isEmpty() ? 1 : 0, 0);
        Process process = new ProcessBuilder("bash", "-ec", String.join("\n", commands)).inheritIO().start();
        DUE.is("README.md's other commands end with exit code", process.waitFor(), 0);
    }

    private static void testsAreNamed() throws IOException {
        String readme = Files.readString(Path.of("README.md"));
        try (Stream<Path> files = Files.list(Path.of("src/test/java"))) {
            for (Path file : files.toList()) {
                String name = file.getFileName().toString().replace(".java", "");
                DUE.is("README.md names " + name, readme.contains("`" + name + "`") ? 1 : 0, 1);
            }
        }
    }

    public static void main(String[] args) throws IOException, InterruptedException {
        new ReadmeTest().callsAnswerSo();
        commandsWork();
        testsAreNamed();
        DUE.end();
    }
}
