import java.io.IOException;
import java.lang.reflect.Field;
import java.lang.reflect.Method;
import java.lang.reflect.Modifier;
import java.nio.file.Files;
import java.nio.file.Path;
import java.util.Arrays;
import java.util.Map;
import java.util.TreeMap;
import java.util.regex.Pattern;

/** The document's public face and no more, and the words that LANGUAGE.md rules out. Run at the root of the project. */
public final class FaceTest {
    private static final Due DUE = new Due("FaceTest");
    private static final String[] FORBIDDEN = {
        "throw", "throws", "try", "catch", "synchronized", "assert", "package", "protected", "Exact", "->", "::", "equals",
        "hashCode", "toString", "System\\.(?!arraycopy)", "static \\{", "import (?!java\\.util\\.Arrays;)"
    };

    private static Map<String, Integer> face() {
        Map<String, Integer> parameters = new TreeMap<>();
        for (String name : new String[] {"clear"}) parameters.put(name, 0);
        for (String name : new String[] {"stop", "of"}) parameters.put(name, 1);
        for (String name : new String[] {"change", "step", "act", "next", "told"}) parameters.put(name, 2);
        for (String name : new String[] {"walk", "late", "earliest", "latest", "reach", "way"}) parameters.put(name, 3);
        for (String name : new String[] {"fewest", "fastest", "profile"}) parameters.put(name, 4);
        parameters.put("ride", 5);
        return parameters;
    }

    private static void methodsAreTheFace() {
        Map<String, Integer> face = face();
        int open = 0;
        for (Method method : TimedWays.class.getDeclaredMethods()) {
            if (Modifier.isPrivate(method.getModifiers())) {
                DUE.is(method + " bears the name of a public one", face.containsKey(method.getName()) ? 1 : 0, 0);
                continue;
            }
            open++;
            boolean ints = method.getReturnType() == int.class
                && Arrays.stream(method.getParameterTypes()).allMatch(type -> type == int.class);
            DUE.is(method + " is public", Modifier.isPublic(method.getModifiers()) ? 1 : 0, 1);
            DUE.is(method + " has ints alone", ints ? 1 : 0, 1);
            DUE.is(method + " has parameters", method.getParameterCount(), face.getOrDefault(method.getName(), -1));
        }
        DUE.is("how many methods", open, face.size());
    }

    private static void fieldsAreTheFace() {
        int open = 0;
        for (Field field : TimedWays.class.getDeclaredFields()) {
            DUE.is(field + " is final", Modifier.isFinal(field.getModifiers()) ? 1 : 0, 1);
            if (!Modifier.isPrivate(field.getModifiers())) open++;
        }
        DUE.is("how many open fields", open, 3);
        DUE.is("constructors", TimedWays.class.getDeclaredConstructors().length, 1);
        DUE.is("the class is public and final", TimedWays.class.getModifiers(), Modifier.PUBLIC | Modifier.FINAL);
        for (Class<?> inside : TimedWays.class.getDeclaredClasses()) {
            DUE.is(inside + " is static", Modifier.isStatic(inside.getModifiers()) ? 1 : 0, 1);
        }
    }

    private static void wordsAreAllowed() throws IOException {
        String source = Files.readString(Path.of("src/main/java/TimedWays.java"));
        String code = source.replaceAll("(?s)/\\*.*?\\*/", " ").replaceAll("//[^\n]*", " ");
        for (String word : FORBIDDEN) {
            boolean isWord = Character.isLetter(word.charAt(0)) && word.matches("\\w+") && !word.equals("Exact");
            Pattern pattern = Pattern.compile(isWord ? "\\b" + word + "\\b" : word);
            DUE.is("the source has " + word, pattern.matcher(code).find() ? 1 : 0, 0);
        }
    }

    public static void main(String[] args) throws IOException {
        methodsAreTheFace();
        fieldsAreTheFace();
        wordsAreAllowed();
        DUE.end();
    }
}
