import java.lang.reflect.Constructor;
import java.lang.reflect.Field;
import java.lang.reflect.Method;
import java.lang.reflect.Modifier;
import java.util.Set;
import java.util.TreeSet;

/** The public face: every constant, constructor and method, and no other visible member. */
public final class FaceTest {
    private static final String IOOBE = " throws java.lang.IndexOutOfBoundsException";
    private static final String IAE = "java.lang.IllegalArgumentException";

    public static void main(String[] args) {
        Check check = new Check();
        check.by("The public face");
        Set<String> want = new TreeSet<>(Set.of(
                "public static final int TemporaryReals.NONE",
                "public TemporaryReals()",
                "public void TemporaryReals.control(int) throws " + IAE,
                "public void TemporaryReals.set(int,int,int,int)" + IOOBE + "," + IAE,
                "public int TemporaryReals.part(int,int)" + IOOBE + "," + IAE,
                "public int TemporaryReals.make(int,boolean,int,int,int,int,int,boolean)" + IOOBE + "," + IAE,
                "public int TemporaryReals.again(int,int)" + IOOBE,
                "public int TemporaryReals.last(int) throws " + IAE,
                "public int TemporaryReals.compare(int,int)" + IOOBE,
                "public void TemporaryReals.neighbour(int,boolean,int)" + IOOBE));
        Set<String> got = new TreeSet<>();
        for (Field field : TemporaryReals.class.getDeclaredFields()) {
            addVisible(got, field.getModifiers(), field.toString());
            check.dueTrue(field + " is no changing static", !Modifier.isStatic(field.getModifiers())
                    || Modifier.isFinal(field.getModifiers()));
        }
        for (Constructor<?> constructor : TemporaryReals.class.getDeclaredConstructors()) {
            addVisible(got, constructor.getModifiers(), constructor.toString());
        }
        for (Method method : TemporaryReals.class.getDeclaredMethods()) {
            addVisible(got, method.getModifiers(), method.toString());
        }
        check.dueTrue("the face " + got + " against " + want, got.equals(want));
        check.dueTrue("a public final class", TemporaryReals.class.getModifiers()
                == (Modifier.PUBLIC | Modifier.FINAL));
        check.due("NONE", TemporaryReals.NONE, -1);
        check.by("LANGUAGE.md, rule 1: No private method bears the name of a public one");
        Set<String> names = Set.of("control", "set", "part", "make", "again", "last", "compare", "neighbour");
        for (Method method : TemporaryReals.class.getDeclaredMethods()) {
            check.dueTrue(method + " has a name of its own", !Modifier.isPrivate(method.getModifiers())
                    || !names.contains(method.getName()));
        }
        check.end();
    }

    private static void addVisible(Set<String> got, int modifiers, String text) {
        if (!Modifier.isPrivate(modifiers)) {
            got.add(text);
        }
    }
}
