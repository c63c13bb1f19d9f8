import java.lang.reflect.Constructor;
import java.lang.reflect.Field;
import java.lang.reflect.Method;
import java.lang.reflect.Modifier;
import java.util.Arrays;
import java.util.Set;
import java.util.TreeSet;

/** The public face and its constants, and nothing else that can be seen from outside. */
public final class FaceTest {
    public static void main(String[] args) {
        Set<String> seen = new TreeSet<>();
        for (Method m : TornCard.class.getDeclaredMethods()) {
            if (!Modifier.isPrivate(m.getModifiers())) {
                seen.add(Modifier.toString(m.getModifiers()) + " " + m.getReturnType() + " " + m.getName()
                    + Arrays.toString(m.getParameterTypes()));
            }
        }
        for (Field f : TornCard.class.getDeclaredFields()) {
            if (!Modifier.isPrivate(f.getModifiers())) {
                seen.add(Modifier.toString(f.getModifiers()) + " " + f.getType() + " " + f.getName());
            }
        }
        for (Constructor<?> c : TornCard.class.getDeclaredConstructors()) {
            seen.add(Modifier.toString(c.getModifiers()) + " new" + Arrays.toString(c.getParameterTypes()));
        }
        Set<String> due = new TreeSet<>(Arrays.asList(
            "public static final int REFUSED", "public static final int FULL", "public static final int POWER",
            "public new[]", "public int file[int, int, int, int, int]", "public int tear[int]", "public int on[]",
            "public int off[]", "public int feed[long, int]", "public int block[int, long, int]",
            "public int reply[int]", "public int stored[int, int]", "public int state[int]",
            "public int look[int, int]"));
        if (!seen.equals(due)) {
            System.out.println("the face is " + seen + ", due is " + due);
        }
        Due.is("the face is as due", seen.equals(due) ? 1 : 0, 1);
        Due.is("the class is public and final", TornCard.class.getModifiers(), Modifier.PUBLIC | Modifier.FINAL);
        Due.is("REFUSED", TornCard.REFUSED, -1);
        Due.is("FULL", TornCard.FULL, -2);
        Due.is("POWER", TornCard.POWER, -3);
        Due.end();
    }
}
