import java.lang.reflect.Constructor;
import java.lang.reflect.Field;
import java.lang.reflect.Method;
import java.lang.reflect.Modifier;
import java.util.Arrays;
import java.util.TreeSet;

/** The face is the document's, whole, and nothing else can be seen from outside. */
public final class FaceTest {
    private static final Class<?> FACE = SheetNeeds.class;

    private static final String[] METHODS = {
        "int source(long) throws UnsupportedOperationException",
        "int cell(int, int, int) throws IllegalArgumentException, UnsupportedOperationException",
        "long change(int, long) throws IndexOutOfBoundsException",
        "boolean edit(int, int, int, int) throws IndexOutOfBoundsException, IllegalArgumentException",
        "boolean fail(int, boolean) throws IndexOutOfBoundsException",
        "int run()",
        "long at(int) throws IndexOutOfBoundsException, IllegalStateException",
        "int state(int) throws IndexOutOfBoundsException",
        "int worked(int) throws IndexOutOfBoundsException",
        "int formula(int, int) throws IndexOutOfBoundsException",
        "int person() throws UnsupportedOperationException",
        "boolean write(int, int, int, int, int) throws IndexOutOfBoundsException, IllegalArgumentException",
        "int join(int) throws IndexOutOfBoundsException",
        "int edits(int) throws IndexOutOfBoundsException",
        "boolean undo()",
        "int uses(int, int) throws IndexOutOfBoundsException",
        "int circle()",
        "int circleAt(int) throws IndexOutOfBoundsException",
        "int count(int)",
    };

    public static void main(String[] args) {
        Check check = new Check();
        check.is("the class is public and final", Modifier.isPublic(FACE.getModifiers())
                && Modifier.isFinal(FACE.getModifiers()), true);
        methods(check);
        constructors(check);
        fields(check);
        check.end();
    }

    private static void methods(Check check) {
        TreeSet<String> seen = new TreeSet<>();
        for (Method m : FACE.getDeclaredMethods()) {
            if (!Modifier.isPrivate(m.getModifiers())) {
                check.is(m.getName() + " is public and no static one", m.getModifiers(), Modifier.PUBLIC);
                seen.add(m.getReturnType() + " " + m.getName() + names("(", m.getParameterTypes(), ")")
                        + (m.getExceptionTypes().length == 0 ? "" : names(" throws ", m.getExceptionTypes(), "")));
            }
        }
        check.isText("the methods", seen.toString(), new TreeSet<>(Arrays.asList(METHODS)).toString());
    }

    private static String names(String before, Class<?>[] types, String behind) {
        StringBuilder all = new StringBuilder(before);
        for (int i = 0; i < types.length; i++) {
            all.append(i == 0 ? "" : ", ").append(types[i].getSimpleName());
        }
        return all.append(behind).toString();
    }

    private static void constructors(Check check) {
        Constructor<?>[] all = FACE.getDeclaredConstructors();
        check.is("constructors", all.length, 1);
        check.is("the constructor is public", all[0].getModifiers(), Modifier.PUBLIC);
        check.is("the constructor's parameters", all[0].getParameterCount(), 0);
    }

    private static void fields(Check check) {
        TreeSet<String> seen = new TreeSet<>();
        for (Field f : FACE.getDeclaredFields()) {
            if (!Modifier.isPrivate(f.getModifiers())) {
                seen.add(Modifier.toString(f.getModifiers()) + " " + f.getType() + " " + f.getName());
            }
        }
        check.isText("the constants", seen.toString(), "[public static final int NONE]");
        check.is("NONE", SheetNeeds.NONE, -1);
    }
}
