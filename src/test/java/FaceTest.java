import java.lang.reflect.Constructor;
import java.lang.reflect.Field;
import java.lang.reflect.Method;
import java.lang.reflect.Modifier;
import java.util.Arrays;
import java.util.TreeSet;

/** The public face, as the document writes it, and nothing beside it. */
public final class FaceTest {
    private static final String[] METHODS = {
        "int piece[int, int, int, int][]", "int turn[int, int][]", "int limit[int, int][]", "int order[int, int][]",
        "int large[int][]", "int pack[int][]", "boolean exact[][]", "int steps[boolean][]", "int at[int, int][]",
        "boolean overlap[int, int][]", "int above[int, int][]", "int free[][]", "int bound[][]",
        "long axle[int, int][class java.lang.ArithmeticException]", "int unload[int][]",
    };

    public static void main(String[] args) {
        Check check = new Check();
        int modifiers = LoadSpace.class.getModifiers();
        check.due("public", Modifier.isPublic(modifiers), true);
        check.due("final", Modifier.isFinal(modifiers), true);
        check.due("UNKNOWN", LoadSpace.UNKNOWN, -101);
        check.due("OUTSIDE", LoadSpace.OUTSIDE, -102);
        check.due("STATE", LoadSpace.STATE, -103);
        check.due("ROOM", LoadSpace.ROOM, -104);
        check.due("NONE", LoadSpace.NONE, -1);
        constants(check);
        constructors(check);
        methods(check);
        classesInside(check);
        check.end();
    }

    private static void constants(Check check) {
        TreeSet<String> seen = new TreeSet<>();
        for (Field field : LoadSpace.class.getDeclaredFields()) {
            if (!Modifier.isPrivate(field.getModifiers())) {
                seen.add(Modifier.toString(field.getModifiers()) + " " + field.getName());
            }
            if (Modifier.isStatic(field.getModifiers())) {
                check.due(field.getName() + " is final", Modifier.isFinal(field.getModifiers()), true);
            }
        }
        check.dueText("constants", seen.toString(), "[public static final NONE, public static final OUTSIDE,"
                + " public static final ROOM, public static final STATE, public static final UNKNOWN]");
    }

    private static void constructors(Check check) {
        Constructor<?>[] all = LoadSpace.class.getDeclaredConstructors();
        check.due("constructors", all.length, 1);
        check.dueText("constructor", all[0].toString(), "public LoadSpace(int,int,int)");
    }

    private static void methods(Check check) {
        TreeSet<String> seen = new TreeSet<>();
        TreeSet<String> openNames = new TreeSet<>();
        for (Method method : LoadSpace.class.getDeclaredMethods()) {
            if (!Modifier.isPrivate(method.getModifiers())) {
                check.due(method.getName() + " is public", Modifier.isPublic(method.getModifiers()), true);
                openNames.add(method.getName());
                seen.add(method.getReturnType() + " " + method.getName() + Arrays.toString(method.getParameterTypes())
                        + Arrays.toString(method.getExceptionTypes()));
            }
        }
        check.dueText("methods", seen.toString(), new TreeSet<>(Arrays.asList(METHODS)).toString());
        for (Method method : LoadSpace.class.getDeclaredMethods()) {
            if (Modifier.isPrivate(method.getModifiers())) {
                check.due(method.getName() + " is no public name", openNames.contains(method.getName()), false);
            }
        }
    }

    private static void classesInside(Check check) {
        for (Class<?> inside : LoadSpace.class.getDeclaredClasses()) {
            int modifiers = inside.getModifiers();
            check.due(inside + " is static", Modifier.isStatic(modifiers), true);
            check.due(inside + " is hidden", Modifier.isPublic(modifiers) || Modifier.isProtected(modifiers), false);
        }
    }
}
