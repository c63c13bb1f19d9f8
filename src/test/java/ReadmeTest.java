import java.io.IOException;
import java.lang.reflect.InvocationTargetException;
import java.lang.reflect.Method;
import java.nio.file.Files;
import java.nio.file.Path;
import java.util.Set;
import java.util.TreeSet;
import java.util.regex.Matcher;
import java.util.regex.Pattern;

/** Makes the calls of each example in README.md, and sees that each answers what is told behind it. */
public final class ReadmeTest {
    private static final Pattern EXAMPLE = Pattern.compile("(?ms)^```java\\n(.*?)^```$");
    private static final Pattern CALL = Pattern.compile("card\\.(\\w+)\\(([^()]*)\\); +// ([-\\w]+)(:.*)?");
    private static final String NEW_CARD = "TornCard card = new TornCard();";

    private static final Set<String> told = new TreeSet<>();

    public static void main(String[] args) throws IOException, ReflectiveOperationException {
        Matcher examples = EXAMPLE.matcher(Files.readString(Path.of("README.md")));
        int count = 0;
        while (examples.find()) {
            count++;
            run("example " + count, examples.group(1).split("\n"));
        }
        Due.test("README.md");
        for (Method method : TornCard.class.getDeclaredMethods()) {
            if (java.lang.reflect.Modifier.isPublic(method.getModifiers())) {
                Due.is("examples that call " + method.getName(), told.contains(method.getName()) ? 1 : 0, 1);
            }
        }
        for (String constant : new String[] {"REFUSED", "FULL", "POWER"}) {
            Due.is("examples that answer " + constant, told.contains(constant) ? 1 : 0, 1);
        }
        Due.end();
    }

    private static void run(String example, String[] lines) throws ReflectiveOperationException {
        Due.test(example);
        Due.is("it begins with a new card", lines[0].equals(NEW_CARD) ? 1 : 0, 1);
        TornCard card = new TornCard();
        for (int at = 1; at < lines.length; at++) {
            Matcher call = CALL.matcher(lines[at]);
            Due.is("'" + lines[at] + "' is a call with its answer", call.matches() ? 1 : 0, 1);
            if (call.matches()) {
                told.add(call.group(1));
                told.add(call.group(3));
                String[] numbers = call.group(2).isEmpty() ? new String[0] : call.group(2).split(", ");
                Due.is(lines[at], call(card, call.group(1), numbers), answer(call.group(3)));
            }
        }
    }

    private static int call(TornCard card, String name, String[] numbers) throws ReflectiveOperationException {
        for (Method method : TornCard.class.getDeclaredMethods()) {
            if (method.getName().equals(name) && method.getParameterCount() == numbers.length) {
                Object[] arguments = new Object[numbers.length];
                for (int k = 0; k < numbers.length; k++) {
                    arguments[k] = number(numbers[k], method.getParameterTypes()[k]);
                }
                try {
                    return (int) method.invoke(card, arguments);
                } catch (InvocationTargetException e) {
                    throw new IllegalStateException(name + " threw", e.getCause());
                }
            }
        }
        throw new IllegalStateException("no call " + name + " with " + numbers.length + " numbers");
    }

    /** As Java takes it: a number beyond int must end with L, and an int must not. */
    private static Object number(String text, Class<?> type) {
        if (text.endsWith("L") && type == long.class) {
            String digits = text.substring(0, text.length() - 1);
            return digits.startsWith("0x") ? Long.parseUnsignedLong(digits.substring(2), 16) : Long.parseLong(digits);
        }
        int number = Integer.decode(text);
        return type == long.class ? (Object) (long) number : (Object) number;
    }

    private static int answer(String text) throws ReflectiveOperationException {
        boolean named = Character.isLetter(text.charAt(0));
        return named ? TornCard.class.getField(text).getInt(null) : Integer.decode(text);
    }
}
