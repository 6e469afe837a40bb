import java.lang.reflect.Field;
import java.lang.reflect.Member;
import java.lang.reflect.Method;
import java.lang.reflect.Modifier;
import java.util.Arrays;
import java.util.List;
import java.util.Set;
import java.util.TreeSet;

/** The public face of the document, and the rules of LANGUAGE.md on what may stand beside it. */
public final class FaceTest {
    private static final List<String> METHODS = List.of(
        "int write(int, int)", "int stage(int)", "int commit()", "int branch(int)", "int turn(int)", "int merge(int)",
        "int abort()", "int pick(int)", "int reset(int)", "int remove(int)", "int sweep()", "int content(int, int)",
        "int at(int, int)", "int parent(int, int)", "int branchAt(int)", "int common(int, int)",
        "int differ(int, int)", "boolean clashing(int)", "int count(int)");
    private static final List<String> CONSTANTS = List.of("REFUSED", "FULL", "SAME", "UNTIDY", "CLASH");

    public static void main(String[] args) {
        Check check = new Check();
        Class<?> face = VersionDepot.class;
        check.due("public final", face.getModifiers() == (Modifier.PUBLIC | Modifier.FINAL), true);
        check.due("constructors", face.getDeclaredConstructors().length, 1);
        check.due("public constructors", face.getConstructors().length, 1);
        methods(check, face);
        fields(check, face);
        for (Class<?> inside : face.getDeclaredClasses()) {
            check.due(inside.getName() + " is static", Modifier.isStatic(inside.getModifiers()), true);
            check.due(inside.getName() + " is no face", !isOpen(inside.getModifiers()), true);
        }
        check.end();
    }

    private static void methods(Check check, Class<?> face) {
        Set<String> open = new TreeSet<>();
        Set<String> openNames = new TreeSet<>();
        for (Method method : face.getDeclaredMethods()) {
            if (isFace(method)) {
                open.add(signature(method));
                openNames.add(method.getName());
            }
        }
        for (Method method : face.getDeclaredMethods()) {
            if (!isFace(method)) {
                check.due(method + " is private", Modifier.isPrivate(method.getModifiers()), true);
                check.due(method + " has its own name", openNames.contains(method.getName()), false);
            }
        }
        check.due("the face is " + open, open.equals(new TreeSet<>(METHODS)), true);
    }

    private static void fields(Check check, Class<?> face) {
        Set<String> open = new TreeSet<>();
        for (Field field : face.getDeclaredFields()) {
            if (isFace(field)) {
                open.add(field.getName());
                check.due(field + " is a constant", field.getType() == int.class && isConstant(field), true);
            } else {
                check.due(field + " is private", Modifier.isPrivate(field.getModifiers()), true);
            }
            check.due(field + " is no static state", !Modifier.isStatic(field.getModifiers()) || isConstant(field), true);
        }
        check.due("the constants are " + open, open.equals(new TreeSet<>(CONSTANTS)), true);
    }

    private static boolean isConstant(Field field) {
        return Modifier.isStatic(field.getModifiers()) && Modifier.isFinal(field.getModifiers());
    }

    private static boolean isFace(Member member) {
        return isOpen(member.getModifiers());
    }

    private static boolean isOpen(int modifiers) {
        return Modifier.isPublic(modifiers) || Modifier.isProtected(modifiers);
    }

    private static String signature(Method method) {
        String parameters = Arrays.toString(method.getParameterTypes());
        return method.getReturnType() + " " + method.getName() + "(" + parameters.substring(1, parameters.length() - 1) + ")";
    }
}
