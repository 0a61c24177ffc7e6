import java.io.IOException;
import java.lang.reflect.Constructor;
import java.lang.reflect.Field;
import java.lang.reflect.Method;
import java.lang.reflect.Modifier;
import java.nio.file.Files;
import java.nio.file.Path;
import java.util.Arrays;
import java.util.Set;
import java.util.TreeSet;
import java.util.regex.Matcher;
import java.util.regex.Pattern;

/** The document's public face, and what of LANGUAGE.md can be seen in the class or its text (the argument). */
public final class FaceTest {
    private static final String FACE = "int bone(int,int,int,int);int about(int,int);int turn(int,int);"
        + "int root(long,long);long end(int,int);long far(int,long,long);int lock(int);long two(int,long,long);"
        + "long rounds(int,long,long,int);int frame(int);int clear(int);int show(int,int);int at(int,int,int);"
        + "int blend(int,int,int,int);int add(int,int,int);int like(int,int,int,int);int pack(int,int);int key(int);"
        + "int thin(int,int);int join(int);int live();int isLive(int,int);int walk(int,int,int,int);int step(int);"
        + "int sheet(int,int,int);int lose(int);int put(int,int,int,int);int get(int,int,int);"
        + "int copy(int,int,int,int,int);int pose(int,int);int write(int,int);int count(int);long digest()";
    private static final String[] BANNED = {
        "throw", "throws", "try", "catch", "finally", "synchronized", "assert", "import static", "->", "::",
        "Exact", "System\\.(?!arraycopy)", "Math\\.random", "hashCode", "toString", "\\bequals\\b", "volatile", "native"
    };
    private static final Due due = new Due("FaceTest");

    public static void main(String[] args) throws IOException {
        members();
        constants();
        nested();
        if (args.length > 0) {
            text(Files.readString(Path.of(args[0])));
        }
        due.end();
    }

    private static void members() {
        Set<String> want = new TreeSet<>(Arrays.asList(FACE.split(";")));
        Set<String> names = new TreeSet<>();
        for (Method method : BoneSteps.class.getDeclaredMethods()) {
            if (Modifier.isPublic(method.getModifiers())) {
                String types = Arrays.toString(method.getParameterTypes()).replaceAll("[\\[\\] ]", "");
                String told = method.getReturnType() + " " + method.getName() + "(" + types + ")";
                due.is(told + " is of the face", want.remove(told) ? 1 : 0, 1);
                names.add(method.getName());
            }
        }
        due.is("what of the face is missing: " + want, want.size(), 0);
        for (Method method : BoneSteps.class.getDeclaredMethods()) {
            if (!Modifier.isPublic(method.getModifiers())) {
                due.is(method.getName() + " is private", Modifier.isPrivate(method.getModifiers()) ? 1 : 0, 1);
                due.is(method.getName() + " has a public one's name", names.contains(method.getName()) ? 1 : 0, 0);
            }
        }
        Constructor<?>[] constructors = BoneSteps.class.getDeclaredConstructors();
        due.is("constructors", constructors.length, 1);
        due.is("public, no parameters", Modifier.isPublic(constructors[0].getModifiers())
            && constructors[0].getParameterCount() == 0 ? 1 : 0, 1);
        due.is("final", Modifier.isFinal(BoneSteps.class.getModifiers()) ? 1 : 0, 1);
    }

    private static void constants() {
        due.is("NONE", BoneSteps.NONE, -1);
        due.is("BAD", BoneSteps.BAD, -2);
        due.is("NOT", BoneSteps.NOT, -3);
        due.is("FULL", BoneSteps.FULL, -4);
        Set<String> shown = new TreeSet<>();
        for (Field field : BoneSteps.class.getDeclaredFields()) {
            if (!Modifier.isPrivate(field.getModifiers())) {
                shown.add(field.getName());
            }
        }
        due.is("fields that are not private: " + shown, shown.size(), 4);
    }

    private static void nested() {
        Class<?>[] classes = BoneSteps.class.getDeclaredClasses();
        due.is("at most 12 classes", classes.length <= 12 ? 1 : 0, 1);
        for (Class<?> inside : classes) {
            due.is(inside + " is static", Modifier.isStatic(inside.getModifiers()) ? 1 : 0, 1);
            int fields = 0;
            for (Field field : inside.getDeclaredFields()) {
                boolean isStatic = Modifier.isStatic(field.getModifiers());
                fields += isStatic ? 0 : 1;
                due.is(field + " is final, if static", !isStatic || Modifier.isFinal(field.getModifiers()) ? 1 : 0, 1);
            }
            due.is(inside + " has at most 20 fields", fields <= 20 ? 1 : 0, 1);
            for (Method method : inside.getDeclaredMethods()) {
                due.is(method + " has at most 7 parameters", method.getParameterCount() <= 7 ? 1 : 0, 1);
            }
        }
    }

    private static void text(String text) {
        String code = text.replaceAll("(?s)/\\*.*?\\*/", "").replaceAll("//[^\n]*", "");
        for (String banned : BANNED) {
            String pattern = Character.isLetter(banned.charAt(0)) && !banned.contains("\\") && !banned.equals("Exact")
                ? "\\b" + banned + "\\b" : banned;
            Matcher matcher = Pattern.compile(pattern).matcher(code);
            due.is("the text has " + banned, matcher.find() ? 1 : 0, 0);
        }
        due.is("the text has a package line", code.startsWith("package") ? 1 : 0, 0);
    }
}
