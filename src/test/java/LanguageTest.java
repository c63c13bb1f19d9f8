import java.io.IOException;
import java.lang.reflect.Field;
import java.lang.reflect.Method;
import java.lang.reflect.Modifier;
import java.nio.file.Files;
import java.nio.file.Path;
import java.util.ArrayList;
import java.util.Arrays;
import java.util.List;
import java.util.Set;
import java.util.TreeSet;
import java.util.regex.Matcher;
import java.util.regex.Pattern;

/** What of ../shared/LANGUAGE.md can be seen from the compiled class and from its text. */
public final class LanguageTest {
    private static final int MOST_PARAMETERS = 7, MOST_CLASSES = 12, MOST_FIELDS = 20, MOST_LINES = 60;
    private static final Set<Class<?>> CONSTANT_TYPES =
        Set.of(int.class, long.class, boolean.class, char.class, String.class, int[].class, long[].class, char[].class, byte[].class);
    /** The class needs none of these, so none of them has to be told from a use that the rules allow. */
    private static final String[] WITHOUT = {"import", "package", "throw", "throws", "try", "catch", "finally",
        "synchronized", "assert", "equals", "hashCode", "toString"};
    private static final Pattern LIBRARY = Pattern.compile("\\b(Math|System|Arrays|Integer|Long)\\.\\w+");
    /** Rule 4 allows more: who needs more of it adds it here. */
    private static final Set<String> LIBRARY_USED = Set.of("Math.min", "System.arraycopy");
    private static final Pattern MADE = Pattern.compile("\\bnew\\b");
    private static final Pattern MADE_WITH_THE_CARD = Pattern.compile(" +private final \\S+ \\w+ = new .*;");

    public static void main(String[] args) throws IOException {
        List<Class<?>> classes = new ArrayList<>(Arrays.asList(TornCard.class.getDeclaredClasses()));
        for (Class<?> inside : classes) {
            int modifiers = inside.getModifiers();
            Due.is("rule 1: " + inside + " is static and not public or protected",
                Modifier.isStatic(modifiers) && !Modifier.isPublic(modifiers) && !Modifier.isProtected(modifiers) ? 1 : 0, 1);
        }
        classes.add(TornCard.class);
        Due.is("rule 11: classes", classes.size() <= MOST_CLASSES ? 1 : 0, 1);
        int methods = 0;
        for (Class<?> one : classes) {
            lookAtFields(one);
            lookAtMethods(one);
            methods += one.getDeclaredMethods().length;
        }
        lookAtText(Files.readString(Path.of("src/main/java/TornCard.java")), methods);
        Due.end();
    }

    private static void lookAtFields(Class<?> one) {
        int ofObject = 0;
        for (Field field : one.getDeclaredFields()) {
            if (Modifier.isStatic(field.getModifiers())) {
                Due.is("rule 5: " + field + " is a constant",
                    Modifier.isFinal(field.getModifiers()) && CONSTANT_TYPES.contains(field.getType()) ? 1 : 0, 1);
            } else {
                ofObject++;
            }
        }
        Due.is("rule 11: fields of " + one, ofObject <= MOST_FIELDS ? 1 : 0, 1);
    }

    private static void lookAtMethods(Class<?> one) {
        Set<String> face = new TreeSet<>();
        for (Method method : TornCard.class.getDeclaredMethods()) {
            if (Modifier.isPublic(method.getModifiers())) {
                face.add(method.getName());
            }
        }
        for (Method method : one.getDeclaredMethods()) {
            Due.is("rule 11: parameters of " + method, method.getParameterCount() <= MOST_PARAMETERS ? 1 : 0, 1);
            boolean ofFace = one == TornCard.class && Modifier.isPublic(method.getModifiers());
            Due.is("rule 1: " + method + " bears a name of the face", !ofFace && face.contains(method.getName()) ? 1 : 0, 0);
        }
    }

    private static void lookAtText(String text, int declared) {
        String code = text.replaceAll("(?s)/\\*.*?\\*/", "").replaceAll("//[^\\n]*", "");
        for (String word : WITHOUT) {
            Due.is("uses of " + word, Pattern.compile("\\b" + word + "\\b").matcher(code).find() ? 1 : 0, 0);
        }
        Due.is("rule 2: lambdas and method references", code.contains("->") || code.contains("::") ? 1 : 0, 0);
        Due.is("rule 5: static blocks", Pattern.compile("\\bstatic\\s*\\{").matcher(code).find() ? 1 : 0, 0);
        Due.is("texts", code.contains("\"") ? 1 : 0, 0);
        Matcher library = LIBRARY.matcher(code);
        while (library.find()) {
            Due.is("rule 4: " + library.group(), LIBRARY_USED.contains(library.group()) ? 1 : 0, 1);
        }
        for (String line : code.split("\n")) {
            if (MADE.matcher(line).find()) {
                Due.is("README.md: '" + line + "' is made with the card", MADE_WITH_THE_CARD.matcher(line).matches() ? 1 : 0, 1);
            }
        }
        lookAtLengths(text, declared);
    }

    /** A method begins at its class's inner margin and ends with a brace at that same margin. */
    private static void lookAtLengths(String text, int declared) {
        Matcher method = Pattern.compile("(?ms)^((?:    ){1,2})\\w[^;=\\n]*\\) \\{$.*?^\\1\\}$").matcher(text);
        int methods = 0;
        while (method.find()) {
            methods++;
            String body = method.group();
            Due.is("rule 11: lines of " + body.lines().findFirst().orElse(""),
                body.lines().count() <= MOST_LINES ? 1 : 0, 1);
        }
        Due.is("methods of the text, beside the two constructors", methods - 2, declared);
    }
}
