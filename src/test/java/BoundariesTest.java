import java.io.IOException;
import java.lang.reflect.InvocationTargetException;
import java.lang.reflect.Method;
import java.nio.file.Path;
import java.util.Arrays;
import java.util.Comparator;
import java.util.List;

/** Runs the test of each boundary case, and sees that no sentence of the terms and the promises was passed over. */
public final class BoundariesTest {
    private static final Class<?>[] GROUPS = {FilesBoundaries.class, WritingsBoundaries.class, OnBoundaries.class,
        BlockBoundaries.class, ExchangeBoundaries.class, CommandBoundaries.class, SecretBoundaries.class,
        CardBoundaries.class, CallBoundaries.class};

    /** What the document says there is told in full by its other sentences. */
    private static final String OVERVIEW = "A card with files behind a block protocol: blocks with sums and numbers carry commands"
        + " and answers in pieces, commands find, read and change files after a secret was told, and the card may be torn out of"
        + " the reader at any of its writings.";

    public static void main(String[] args) throws IOException, IllegalAccessException {
        Document document = new Document(Path.of("../shared/DOC.md"));
        int tests = 0;
        for (Class<?> group : GROUPS) {
            tests += runGroup(group, document);
        }
        Due.test("the document");
        document.speakFor("What it is", OVERVIEW);
        nothingIsLeft("What it is", document);
        nothingIsLeft("Terms", document);
        for (int promise = 1; promise <= 11; promise++) {
            nothingIsLeft("Promise " + promise, document);
        }
        System.out.println(tests + " tests of boundary cases");
        Due.end();
    }

    private static int runGroup(Class<?> group, Document document) throws IllegalAccessException {
        Method[] methods = group.getDeclaredMethods();
        Arrays.sort(methods, Comparator.comparing(Method::getName));
        int tests = 0;
        for (Method method : methods) {
            Of of = method.getAnnotation(Of.class);
            if (of != null) {
                tests++;
                Due.test(group.getSimpleName() + "." + method.getName() + ", of " + of.in() + " \"" + of.says() + "\"");
                Due.is("the sentence stands there once", document.speakFor(of.in(), of.says()) ? 1 : 0, 1);
                run(method);
            }
        }
        return tests;
    }

    private static void run(Method test) throws IllegalAccessException {
        int before = Due.checks();
        try {
            test.invoke(null);
        } catch (InvocationTargetException e) {
            Due.is("it threw " + e.getCause() + ": calls that threw", 1, 0);
        }
        Due.is("it looked at answers", Due.checks() > before ? 1 : 0, 1);
    }

    private static void nothingIsLeft(String section, Document document) {
        List<String> left = document.left(section);
        Due.is("sentences of " + section + " without a test " + left, left.size(), 0);
    }
}
