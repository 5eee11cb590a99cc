import java.lang.reflect.Constructor;
import java.lang.reflect.Field;
import java.lang.reflect.Method;
import java.lang.reflect.Modifier;
import java.util.Arrays;
import java.util.Set;
import java.util.TreeSet;

/** The public face: the document's members, and no other that can be seen. */
public final class FaceTest {
    private static final String INDEX = "ArrayIndexOutOfBoundsException";
    private static final String STATE = "IllegalStateException";
    private static final String ARGUMENT = "IllegalArgumentException";

    public static void main(String[] args) {
        Set<String> want = new TreeSet<>(Arrays.asList(
                "branch()", "commit(int) " + ARGUMENT, "count(int)",
                "dispatch(int,int,int) " + INDEX, "end(int) " + INDEX + " " + STATE,
                "move(int,int) " + INDEX, "name(int) " + INDEX,
                "port(int,int) " + INDEX + " " + STATE + " " + ARGUMENT, "queue(int) " + ARGUMENT,
                "right(int) " + INDEX + " " + STATE,
                "row(int,int) " + INDEX + " " + STATE + " " + ARGUMENT, "select(int) " + ARGUMENT,
                "selected(int) " + INDEX, "shares(int) " + INDEX, "sure(int) " + INDEX,
                "wrong(int) " + INDEX + " " + STATE));
        Check.holds("methods " + seenMethods(), seenMethods().equals(want));
        Check.holds("fields " + seenFields(), seenFields().equals(Set.of("NONE")));
        Check.due("NONE", RenameRows.NONE, -1);
        Check.holds("the class is public and final",
                (RenameRows.class.getModifiers() & (Modifier.PUBLIC | Modifier.FINAL))
                        == (Modifier.PUBLIC | Modifier.FINAL));
        Constructor<?>[] made = RenameRows.class.getDeclaredConstructors();
        Check.holds("one constructor of three ints", made.length == 1
                && Modifier.isPublic(made[0].getModifiers())
                && Arrays.equals(made[0].getParameterTypes(), new Class<?>[] {int.class, int.class, int.class})
                && made[0].getExceptionTypes().length == 0);
        Check.close();
    }

    private static Set<String> seenMethods() {
        Set<String> seen = new TreeSet<>();
        for (Method m : RenameRows.class.getDeclaredMethods()) {
            if (Modifier.isPrivate(m.getModifiers())) {
                continue;
            }
            Check.holds(m.getName() + " is public, of the object, and answers an int",
                    m.getModifiers() == Modifier.PUBLIC && m.getReturnType() == int.class);
            StringBuilder text = new StringBuilder(m.getName()).append('(');
            for (Class<?> c : m.getParameterTypes()) {
                text.append(text.charAt(text.length() - 1) == '(' ? "" : ",").append(c.getSimpleName());
            }
            text.append(')');
            for (Class<?> c : m.getExceptionTypes()) {
                text.append(' ').append(c.getSimpleName());
            }
            seen.add(text.toString());
        }
        return seen;
    }

    private static Set<String> seenFields() {
        Set<String> seen = new TreeSet<>();
        for (Field f : RenameRows.class.getDeclaredFields()) {
            if (!Modifier.isPrivate(f.getModifiers())) {
                seen.add(f.getName());
            }
        }
        return seen;
    }
}
