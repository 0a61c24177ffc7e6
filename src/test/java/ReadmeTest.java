import java.io.IOException;
import java.lang.reflect.Method;
import java.lang.reflect.Modifier;
import java.nio.file.Files;
import java.nio.file.Path;
import java.util.Set;
import java.util.TreeSet;
import java.util.regex.Matcher;
import java.util.regex.Pattern;

/** README.md (the third argument): each call of the face has its row, and its examples answer what they say. */
public final class ReadmeTest {
    private static final String MADE = "BoneSteps x = new BoneSteps();";
    private static final Pattern ROW = Pattern.compile("^\\| `(\\w+)\\(([^)]*)\\)` \\|");
    private static final Pattern CALL = Pattern.compile("^x\\.(\\w+)\\(([^)]*)\\); +// (-?\\d+)(:.*)?$");
    private static final Due due = new Due("ReadmeTest");

    public static void main(String[] args) throws ReflectiveOperationException, IOException {
        if (args.length < 3) {
            due.isTrue("README.md is the third argument", false);
        } else {
            String[] lines = Files.readString(Path.of(args[2])).split("\n");
            rows(lines);
            examples(lines);
        }
        due.end();
    }

    private static void rows(String[] lines) {
        Set<String> told = new TreeSet<>();
        for (String line : lines) {
            Matcher row = ROW.matcher(line);
            if (row.find()) {
                due.isTrue("one row alone tells " + row.group(1), told.add(row.group(1) + count(row.group(2))));
            }
        }
        Set<String> face = new TreeSet<>();
        for (Method method : BoneSteps.class.getDeclaredMethods()) {
            if (Modifier.isPublic(method.getModifiers())) {
                face.add(method.getName() + method.getParameterCount());
            }
        }
        due.isTrue("calls told " + told + " are the face " + face, told.equals(face));
    }

    private static int count(String arguments) {
        return arguments.isEmpty() ? 0 : arguments.split(", ").length;
    }

    /** Every line of a block of Java is an object made or a call with its answer, so none goes unasked. */
    private static void examples(String[] lines) throws ReflectiveOperationException {
        BoneSteps x = null;
        boolean isJava = false;
        int blocks = 0;
        for (String line : lines) {
            if (line.startsWith("```")) {
                isJava = line.equals("```java");
                blocks += isJava ? 1 : 0;
            } else if (isJava && line.equals(MADE)) {
                x = new BoneSteps();
            } else if (isJava) {
                example(x, line);
            }
        }
        due.isTrue("there are examples", blocks > 0);
    }

    private static void example(BoneSteps x, String line) throws ReflectiveOperationException {
        Matcher call = CALL.matcher(line);
        boolean isCall = x != null && call.matches();
        due.isTrue("a call with its answer: " + line, isCall);
        if (isCall) {
            due.is(line, answer(x, call.group(1), call.group(2)), Long.parseLong(call.group(3)));
        }
    }

    private static long answer(BoneSteps x, String name, String told) throws ReflectiveOperationException {
        for (Method method : BoneSteps.class.getMethods()) {
            if (method.getName().equals(name) && method.getParameterCount() == count(told)) {
                return ((Number) method.invoke(x, arguments(method.getParameterTypes(), told))).longValue();
            }
        }
        throw new NoSuchMethodException(name + "(" + told + ")");
    }

    private static Object[] arguments(Class<?>[] types, String told) {
        String[] parts = told.replace("BoneSteps.NONE", "-1").replace("L", "").split(", ");
        Object[] values = new Object[types.length];
        for (int n = 0; n < types.length; n++) {
            long value = Long.parseLong(parts[n]);
            if (types[n] == int.class) {
                values[n] = (int) value;
            } else {
                values[n] = value;
            }
        }
        return values;
    }
}
