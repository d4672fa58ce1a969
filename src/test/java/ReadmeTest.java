import java.io.IOException;
import java.lang.reflect.InvocationTargetException;
import java.lang.reflect.Method;
import java.nio.file.Files;
import java.nio.file.Path;
import java.util.List;
import java.util.Set;
import java.util.TreeSet;
import java.util.regex.Matcher;
import java.util.regex.Pattern;

/** README.md: each member of the public face stands in it, and the calls of its example answer as written there. */
public final class ReadmeTest {
    private static final Pattern EXAMPLE = Pattern.compile("x\\.(\\w+)\\(([^)]*)\\);\\s*// (.*)");
    private static final Pattern NUMBER = Pattern.compile("(-?(?:0x)?[0-9a-f]+): .*");
    private static final String[] FACE = {"TemporaryReals()", "void control(int word)",
        "void set(int r, int top, int high, int low)", "int part(int r, int what)",
        "int make(int r, boolean negative, int e, int a, int b, int c, int d, boolean l)",
        "int again(int r, int to)", "int last(int what)", "int compare(int a, int b)",
        "void neighbour(int r, boolean up, int to)", "int NONE = -1"};

    public static void main(String[] args) throws IOException, IllegalAccessException {
        Check check = new Check();
        List<String> lines = Files.readAllLines(Path.of("README.md"));
        face(check, lines);
        example(check, lines);
        check.end();
    }

    private static void face(Check check, List<String> lines) {
        check.by("README.md: how the class is used (each method of the public face ..)");
        for (String member : FACE) {
            check.due(member, lines.stream().filter(line -> line.startsWith("**`" + member + "`**")).count(), 1);
        }
    }

    private static void example(Check check, List<String> lines) throws IllegalAccessException {
        check.by("README.md: how the class is used (.. what it answers and what it throws)");
        TemporaryReals x = new TemporaryReals();
        Set<String> used = new TreeSet<>();
        for (String line : lines) {
            Matcher call = EXAMPLE.matcher(line);
            if (call.matches()) {
                Method method = methodOf(call.group(1));
                used.add(method.getName());
                dueAsWritten(check, line, answer(x, method, call.group(2)), call.group(3));
            } else {
                check.dueTrue(line + " is a call with its answer", !line.startsWith("x."));
            }
        }
        check.due("methods in the example " + used, used.size(), 8);
    }

    private static Method methodOf(String name) {
        for (Method method : TemporaryReals.class.getMethods()) {
            if (method.getName().equals(name)) {
                return method;
            }
        }
        throw new IllegalStateException("there is no call " + name);
    }

    /** What the call answers (null when that is nothing), or the class of what it throws. */
    private static Object answer(TemporaryReals x, Method method, String arguments) throws IllegalAccessException {
        String[] texts = arguments.split(", ");
        Object[] values = new Object[texts.length];
        for (int i = 0; i < texts.length; i++) {
            boolean isTruth = texts[i].equals("true") || texts[i].equals("false");
            values[i] = isTruth ? (Object) Boolean.valueOf(texts[i]) : (Object) Long.decode(texts[i]).intValue();
        }
        try {
            return method.invoke(x, values);
        } catch (InvocationTargetException e) {
            return e.getCause().getClass();
        }
    }

    private static void dueAsWritten(Check check, String line, Object got, String written) {
        Matcher number = NUMBER.matcher(written);
        if (written.startsWith("throws ")) {
            check.dueTrue(line + " but got " + got,
                    got instanceof Class<?> thrown && written.equals("throws " + thrown.getSimpleName()));
        } else if (number.matches()) {
            check.dueTrue(line + " but got " + got,
                    got instanceof Integer value && value == Long.decode(number.group(1)).intValue());
        } else {
            check.dueTrue(line + " but got " + got, got == null);
        }
    }
}
