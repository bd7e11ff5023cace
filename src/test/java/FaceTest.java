import java.lang.reflect.Constructor;
import java.lang.reflect.Field;
import java.lang.reflect.Method;
import java.lang.reflect.Modifier;
import java.util.ArrayList;
import java.util.Arrays;
import java.util.List;
import java.util.TreeSet;

/** The face is the document's and nothing more: rule 1 of LANGUAGE.md. */
public final class FaceTest {
    private static int wrong = 0;

    private static final String[] FACE = {
        "add(int, int) int IndexOutOfBoundsException IllegalStateException",
        "at(int, int, int, int) int IndexOutOfBoundsException IllegalArgumentException",
        "base() int IllegalStateException",
        "common(int, int) int IndexOutOfBoundsException IllegalStateException",
        "constant(int) boolean IndexOutOfBoundsException",
        "count() int",
        "derive(int) int IndexOutOfBoundsException IllegalStateException",
        "less(int, int) int IndexOutOfBoundsException IllegalStateException",
        "letter(int, int) int IndexOutOfBoundsException IllegalStateException IllegalArgumentException",
        "logarithmic(int) int IndexOutOfBoundsException IllegalStateException",
        "low(int) boolean IndexOutOfBoundsException",
        "number(long, long) int IllegalStateException ArithmeticException",
        "over(int, int) int IndexOutOfBoundsException IllegalStateException",
        "part(int, int) int IndexOutOfBoundsException IllegalStateException IllegalArgumentException",
        "same(int, int) boolean IndexOutOfBoundsException",
        "times(int, int) int IndexOutOfBoundsException IllegalStateException",
        "top() int IllegalStateException IllegalArgumentException",
    };

    private static void check(boolean holds, String what) {
        if (!holds) {
            wrong++;
            System.out.println("FaceTest: " + what);
        }
    }

    private static String told(Method m) {
        StringBuilder s = new StringBuilder(m.getName());
        s.append(Arrays.toString(m.getParameterTypes()).replace('[', '(').replace(']', ')'));
        s.append(' ').append(m.getReturnType());
        for (Class<?> e : m.getExceptionTypes()) {
            s.append(' ').append(e.getSimpleName());
        }
        return s.toString();
    }

    private static void checkMembers() {
        Class<?> c = TowerFields.class;
        check(Modifier.isPublic(c.getModifiers()) && Modifier.isFinal(c.getModifiers()), "the class is public and final");
        Constructor<?>[] made = c.getDeclaredConstructors();
        check(made.length == 1 && Modifier.isPublic(made[0].getModifiers()) && made[0].getParameterCount() == 0,
            "one public constructor without arguments");
        TreeSet<String> names = new TreeSet<>();
        List<String> open = new ArrayList<>();
        for (Method m : c.getDeclaredMethods()) {
            if (Modifier.isPublic(m.getModifiers())) {
                open.add(told(m));
                names.add(m.getName());
            }
        }
        open.sort(null);
        check(open.equals(Arrays.asList(FACE)), "the face is " + open);
        checkHidden(c, names);
        for (Class<?> inside : c.getDeclaredClasses()) {
            check(Modifier.isStatic(inside.getModifiers()) && Modifier.isPrivate(inside.getModifiers()),
                inside + " is private and static");
        }
    }

    private static void checkHidden(Class<?> c, TreeSet<String> names) {
        for (Method m : c.getDeclaredMethods()) {
            if (!Modifier.isPublic(m.getModifiers())) {
                check(Modifier.isPrivate(m.getModifiers()), m + " is private");
                check(!names.contains(m.getName()), m + " bears no public name");
            }
        }
        for (Field f : c.getDeclaredFields()) {
            check(Modifier.isPrivate(f.getModifiers()), f + " is private");
            check(!Modifier.isStatic(f.getModifiers()) || Modifier.isFinal(f.getModifiers()), f + " is final if static");
        }
    }

    public static void main(String[] args) {
        checkMembers();
        System.out.println("FaceTest: " + wrong + " wrong");
        if (wrong > 0) {
            System.exit(1);
        }
    }
}
