import java.lang.reflect.Field;
import java.lang.reflect.Method;
import java.lang.reflect.Modifier;
import java.util.ArrayList;
import java.util.Arrays;
import java.util.Collections;
import java.util.List;

/** The public face: all that the document has there and nothing else, and what the rules 1, 5 and 11 say of the members. */
public final class FaceTest {
    private static final String[] FACE = {
        "int feed(int, int, int, int, int) throws UnsupportedOperationException",
        "void end(int) throws IllegalArgumentException",
        "int program()",
        "int fault()",
        "int count(int) throws IndexOutOfBoundsException",
        "int explore(int) throws IllegalStateException, IllegalArgumentException",
        "int state(int, int) throws IndexOutOfBoundsException",
        "int value(int, int, int) throws IndexOutOfBoundsException",
        "int next(int, int, int) throws IndexOutOfBoundsException",
        "int ending(int, int) throws IndexOutOfBoundsException",
        "int decide(int, int) throws IndexOutOfBoundsException",
        "int decided(int) throws IndexOutOfBoundsException",
        "int best() throws IllegalStateException",
        "int solve() throws IllegalStateException",
        "int show(int, int) throws IllegalArgumentException, IllegalStateException, IndexOutOfBoundsException",
        "int size(int) throws IndexOutOfBoundsException",
        "int limb(int, int) throws IndexOutOfBoundsException",
        "int tell(int) throws UnsupportedOperationException",
        "int forget()",
        "int play(long, int) throws IllegalStateException, IllegalArgumentException",
        "int walk(int) throws IllegalStateException, IllegalArgumentException",
        "long played(int) throws IndexOutOfBoundsException",
        "boolean independent(int, int) throws IllegalStateException, IndexOutOfBoundsException",
        "boolean given(int, int, int) throws IllegalStateException, IndexOutOfBoundsException",
    };
    private static final List<String> CONSTANTS = List.of("int", "long", "boolean", "char", "String", "int[]", "long[]", "char[]", "byte[]");

    public static void main(String[] args) {
        Class<?> face = ChanceWorks.class;
        is("the class is public and final", Modifier.isPublic(face.getModifiers()) && Modifier.isFinal(face.getModifiers()));
        is("it has no package", face.getPackageName().isEmpty());
        is("it is above nothing, and below Object alone", face.getSuperclass() == Object.class && face.getInterfaces().length == 0);
        is("one constructor", face.getDeclaredConstructors().length == 1);
        is("it is public, takes nothing, and throws nothing", Modifier.isPublic(face.getDeclaredConstructors()[0].getModifiers())
                && face.getDeclaredConstructors()[0].getParameterCount() == 0
                && face.getDeclaredConstructors()[0].getExceptionTypes().length == 0);
        Check.due("NONE", ChanceWorks.NONE, -1);
        methods(face);
        fields(face);
        Check.due("classes inside, at most 12", Math.max(face.getDeclaredClasses().length, 12), 12);
        for (Class<?> inside : face.getDeclaredClasses()) {
            inside(inside);
        }
        Check.end();
    }

    private static void is(String what, boolean holds) {
        Check.due(what, holds ? 1 : 0, 1);
    }

    private static void methods(Class<?> face) {
        List<String> due = new ArrayList<>(Arrays.asList(FACE));
        List<String> found = new ArrayList<>();
        List<String> names = new ArrayList<>();
        for (Method method : face.getDeclaredMethods()) {
            if (Modifier.isPublic(method.getModifiers())) {
                found.add(signature(method));
                names.add(method.getName());
                is(method.getName() + " belongs to an object", !Modifier.isStatic(method.getModifiers()));
            }
        }
        Collections.sort(due);
        Collections.sort(found);
        Check.due("the methods", String.join("\n", found), String.join("\n", due));
        for (Method method : face.getDeclaredMethods()) {
            if (!Modifier.isPublic(method.getModifiers())) {
                is(method.getName() + " is private", Modifier.isPrivate(method.getModifiers()));
                is(method.getName() + " bears no public one's name", !names.contains(method.getName()));
            }
            fewParameters(method);
        }
    }

    private static String signature(Method method) {
        String all = method.getReturnType().getSimpleName() + " " + method.getName() + "(" + names(method.getParameterTypes()) + ")";
        return method.getExceptionTypes().length == 0 ? all : all + " throws " + names(method.getExceptionTypes());
    }

    private static String names(Class<?>[] types) {
        List<String> all = new ArrayList<>();
        for (Class<?> type : types) {
            all.add(type.getSimpleName());
        }
        return String.join(", ", all);
    }

    private static void fewParameters(Method method) {
        is(method + " takes at most seven", method.getParameterCount() <= 7);
    }

    private static void fields(Class<?> face) {
        for (Field field : face.getDeclaredFields()) {
            boolean none = field.getName().equals("NONE");
            is(field.getName() + " is private", none || Modifier.isPrivate(field.getModifiers()));
            if (none) {
                is("NONE is a public static final int", Modifier.isPublic(field.getModifiers())
                        && Modifier.isStatic(field.getModifiers()) && Modifier.isFinal(field.getModifiers())
                        && field.getType() == int.class);
            }
        }
        constants(face);
    }

    private static void constants(Class<?> type) {
        int many = 0;
        for (Field field : type.getDeclaredFields()) {
            if (Modifier.isStatic(field.getModifiers())) {
                is(field + " is a constant", Modifier.isFinal(field.getModifiers())
                        && CONSTANTS.contains(field.getType().getSimpleName()));
            } else {
                many++;
            }
        }
        Check.due("fields of " + type.getSimpleName() + ", at most 20", Math.max(many, 20), 20);
    }

    private static void inside(Class<?> type) {
        int how = type.getModifiers();
        is(type + " is static", Modifier.isStatic(how));
        is(type + " is not seen outside", !Modifier.isPublic(how) && !Modifier.isProtected(how));
        constants(type);
        for (Method method : type.getDeclaredMethods()) {
            fewParameters(method);
        }
    }
}
