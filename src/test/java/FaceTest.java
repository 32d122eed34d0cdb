import java.lang.reflect.Constructor;
import java.lang.reflect.Field;
import java.lang.reflect.Method;
import java.lang.reflect.Modifier;
import java.util.Arrays;
import java.util.Set;
import java.util.TreeSet;

/** The public face, and rule 1 of LANGUAGE.md: nothing but the face is to be seen from outside. */
public final class FaceTest {
    private static final String[] FACE = {
        "int aged(int,int) IndexOutOfBoundsException",
        "int animal(int) IndexOutOfBoundsException",
        "int bound(int,int) IndexOutOfBoundsException,IllegalArgumentException",
        "int clash(int,int) IndexOutOfBoundsException,IllegalArgumentException",
        "int clashing(int,int) IndexOutOfBoundsException",
        "int diverse(int) IndexOutOfBoundsException",
        "int least(int) IndexOutOfBoundsException",
        "int piece(int,int,int,int) IndexOutOfBoundsException,IllegalArgumentException,IllegalStateException",
        "int pieces(int) IndexOutOfBoundsException",
        "int scaled(int,int) IndexOutOfBoundsException",
        "int share(int,int) IndexOutOfBoundsException",
        "int sum(int) IndexOutOfBoundsException",
        "int weight(int,int) IndexOutOfBoundsException,IllegalArgumentException",
        "boolean single(int,int,boolean) IndexOutOfBoundsException",
        "boolean unsure(int) IndexOutOfBoundsException",
        "void sieve(int,int,int) IndexOutOfBoundsException,IllegalArgumentException",
        "void table(int,int,int,int) IndexOutOfBoundsException,IllegalArgumentException",
        "void worn(int,int) IndexOutOfBoundsException",
    };

    public static void main(String[] args) {
        Class<?> face = CountLeast.class;
        Checks.due("public", Modifier.isPublic(face.getModifiers()), true);
        Checks.due("final", Modifier.isFinal(face.getModifiers()), true);
        Checks.due("NONE", CountLeast.NONE, -1);
        Checks.due("methods", seen(face), new TreeSet<>(Arrays.asList(FACE)));
        Checks.due("constructors", face.getDeclaredConstructors().length, 1);
        for (Constructor<?> made : face.getDeclaredConstructors()) {
            Checks.due("constructor", made.toString(), "public CountLeast()");
        }
        checkFields(face);
        checkNames(face);
        Checks.finish();
    }

    private static Set<String> seen(Class<?> face) {
        Set<String> all = new TreeSet<>();
        for (Method method : face.getDeclaredMethods()) {
            if (!Modifier.isPrivate(method.getModifiers())) {
                Checks.due(method + " public", Modifier.isPublic(method.getModifiers()), true);
                all.add(method.getReturnType().getSimpleName() + " " + method.getName()
                        + "(" + names(method.getParameterTypes()) + ") " + names(method.getExceptionTypes()));
            }
        }
        return all;
    }

    private static String names(Class<?>[] types) {
        StringBuilder all = new StringBuilder();
        for (Class<?> type : types) {
            all.append(all.length() == 0 ? "" : ",").append(type.getSimpleName());
        }
        return all.toString();
    }

    private static void checkFields(Class<?> face) {
        for (Field field : face.getDeclaredFields()) {
            if (!field.getName().equals("NONE")) {
                Checks.due(field + " private", Modifier.isPrivate(field.getModifiers()), true);
            }
            if (Modifier.isStatic(field.getModifiers())) {
                Checks.due(field + " final", Modifier.isFinal(field.getModifiers()), true);
            }
        }
    }

    private static void checkNames(Class<?> face) {
        Set<String> shown = new TreeSet<>();
        for (Method method : face.getMethods()) {
            shown.add(method.getName());
        }
        for (Method method : face.getDeclaredMethods()) {
            if (Modifier.isPrivate(method.getModifiers())) {
                Checks.due(method.getName() + " is a public name", shown.contains(method.getName()), false);
            }
        }
        for (Class<?> inside : face.getDeclaredClasses()) {
            Checks.due(inside + " static", Modifier.isStatic(inside.getModifiers()), true);
            for (Method method : inside.getDeclaredMethods()) {
                Checks.due(method.getName() + " is a public name", shown.contains(method.getName()), false);
            }
        }
    }
}
