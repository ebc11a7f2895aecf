import java.io.IOException;
import java.lang.reflect.Field;
import java.lang.reflect.Method;
import java.lang.reflect.Modifier;
import java.nio.file.Files;
import java.nio.file.Path;
import java.util.Arrays;
import java.util.Map;
import java.util.TreeMap;
import java.util.regex.Matcher;
import java.util.regex.Pattern;

/** The document's public face and no more, and the words that LANGUAGE.md rules out. Run at the root of the project. */
public final class FaceTest {
    private static final Due DUE = new Due("FaceTest");
    private static final String[] FORBIDDEN = {
        "throw", "throws", "try", "catch", "synchronized", "assert", "package", "protected", "Exact", "->", "::", "equals",
        "hashCode", "toString", "System\\.(?!arraycopy)", "static \\{", "import (?!java\\.util\\.Arrays;)"
    };

    private static Map<String, Integer> face() {
        Map<String, Integer> parameters = new TreeMap<>();
        for (String name : new String[] {"clear"}) parameters.put(name, 0);
        for (String name : new String[] {"stop", "of"}) parameters.put(name, 1);
        for (String name : new String[] {"change", "step", "act", "next", "told"}) parameters.put(name, 2);
        for (String name : new String[] {"walk", "late", "earliest", "latest", "reach", "way"}) parameters.put(name, 3);
        for (String name : new String[] {"fewest", "fastest", "profile"}) parameters.put(name, 4);
        parameters.put("ride", 5);
        return parameters;
    }

    private static void methodsAreTheFace() {
        Map<String, Integer> face = face();
        int open = 0;
        for (Method method : TimedWays.class.getDeclaredMethods()) {
            if (Modifier.isPrivate(method.getModifiers())) {
                DUE.is(method + " bears the name of a public one", face.containsKey(method.getName()) ? 1 : 0, 0);
                continue;
            }
            open++;
            boolean ints = method.getReturnType() == int.class
                && Arrays.stream(method.getParameterTypes()).allMatch(type -> type == int.class);
            DUE.is(method + " is public", Modifier.isPublic(method.getModifiers()) ? 1 : 0, 1);
            DUE.is(method + " has ints alone", ints ? 1 : 0, 1);
            DUE.is(method + " has parameters", method.getParameterCount(), face.getOrDefault(method.getName(), -1));
        }
        DUE.is("how many methods", open, face.size());
    }

    private static void fieldsAreTheFace() {
        int open = 0;
        for (Field field : TimedWays.class.getDeclaredFields()) {
            DUE.is(field + " is final", Modifier.isFinal(field.getModifiers()) ? 1 : 0, 1);
            if (!Modifier.isPrivate(field.getModifiers())) open++;
        }
        DUE.is("how many open fields", open, 3);
        DUE.is("constructors", TimedWays.class.getDeclaredConstructors().length, 1);
        DUE.is("the class is public and final", TimedWays.class.getModifiers(), Modifier.PUBLIC | Modifier.FINAL);
        for (Class<?> inside : TimedWays.class.getDeclaredClasses()) {
            DUE.is(inside + " is static", Modifier.isStatic(inside.getModifiers()) ? 1 : 0, 1);
        }
    }

    /** Rules 1, 2, 5 and 11 of LANGUAGE.md, of the class and those inside it. */
    private static void classesKeepToTheRules() {
        Class<?>[] inside = TimedWays.class.getDeclaredClasses();
        DUE.is("some twelve classes at most", inside.length + 1 <= 12 ? 1 : 0, 1);
        classKeepsToTheRules(TimedWays.class);
        for (Class<?> each : inside) {
            DUE.is(each + " is within one level", each.getDeclaredClasses().length, 0);
            classKeepsToTheRules(each);
            for (Method method : each.getDeclaredMethods()) {
                boolean named = Modifier.isPrivate(method.getModifiers()) && face().containsKey(method.getName());
                DUE.is(method + " bears the name of a public one", named ? 1 : 0, 0);
            }
        }
    }

    private static void classKeepsToTheRules(Class<?> each) {
        int fields = 0;
        for (Field field : each.getDeclaredFields()) {
            if (!Modifier.isStatic(field.getModifiers())) {
                fields++;
                continue;
            }
            boolean constant = Modifier.isFinal(field.getModifiers()) && field.getType().isPrimitive();
            DUE.is(field + " is a constant", constant ? 1 : 0, 1);
        }
        DUE.is(each + " has some twenty fields at most", fields <= 20 ? 1 : 0, 1);
        for (Method method : each.getDeclaredMethods()) {
            DUE.is(method + " has seven parameters at most", method.getParameterCount() <= 7 ? 1 : 0, 1);
        }
    }

    /** Rule 4: what is called of the library is what the rules list. */
    private static void libraryIsAllowed() throws IOException {
        Matcher matcher = Pattern.compile("\\b(Math|Arrays|System|Integer|Long|String|List)\\.(\\w+)").matcher(code());
        while (matcher.find()) {
            String called = matcher.group();
            boolean allowed = Arrays.asList("Math.min", "Math.max", "Arrays.fill", "System.arraycopy").contains(called);
            DUE.is("the source calls " + called, allowed ? 0 : 1, 0);
        }
    }

    /** Rule 11: a method's lines are those from its head, four or eight blanks in, to its closing brace. */
    private static void methodsAreShort() throws IOException {
        Matcher matcher = Pattern.compile("(?m)^( {4}| {8})(?! )[^\n]*\\) \\{\n(?s:.*?)^\\1\\}$").matcher(code());
        int methods = 0;
        while (matcher.find()) {
            methods++;
            String method = matcher.group();
            DUE.is(method.trim().split("\n")[0] + " is short", method.split("\n").length <= 60 ? 1 : 0, 1);
        }
        DUE.is("methods were found", methods > 50 ? 1 : 0, 1);
    }

    /** Rule 12: only constructors, whose heads bear no type, make objects and rows; so no call makes any. */
    private static void constructorsAloneMakeObjects() throws IOException {
        String withoutConstructors =
            code().replaceAll("(?ms)^( {4}| {8})(?:public )?[A-Z]\\w*\\([^)]*\\) \\{\n.*?^\\1\\}$", "");
        DUE.is("the source has new in constructors", code().contains("new int[") ? 1 : 0, 1);
        DUE.is("the source has new elsewhere", Pattern.compile("\\bnew\\b").matcher(withoutConstructors).find() ? 1 : 0, 0);
    }

    private static String code() throws IOException {
        String source = Files.readString(Path.of("src/main/java/TimedWays.java"));
        return source.replaceAll("(?s)/\\*.*?\\*/", " ").replaceAll("//[^\n]*", " ");
    }

    private static void wordsAreAllowed() throws IOException {
        String code = code();
        for (String word : FORBIDDEN) {
            boolean isWord = Character.isLetter(word.charAt(0)) && word.matches("\\w+") && !word.equals("Exact");
            Pattern pattern = Pattern.compile(isWord ? "\\b" + word + "\\b" : word);
            DUE.is("the source has " + word, pattern.matcher(code).find() ? 1 : 0, 0);
        }
    }

    public static void main(String[] args) throws IOException {
        methodsAreTheFace();
        fieldsAreTheFace();
        classesKeepToTheRules();
        wordsAreAllowed();
        libraryIsAllowed();
        methodsAreShort();
        constructorsAloneMakeObjects();
        DUE.end();
    }
}
