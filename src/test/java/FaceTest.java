import java.lang.reflect.Constructor;
import java.lang.reflect.Field;
import java.lang.reflect.Method;
import java.lang.reflect.Modifier;
import java.util.Arrays;
import java.util.Set;
import java.util.TreeSet;
import java.util.stream.Collectors;

/** The public face of the document, and that nothing else can be seen from outside. */
public final class FaceTest {
    private static final String[] FACE = {
        "int bar(int) IllegalStateException",
        "int repeat(int,int,int) IndexOutOfBoundsException,IllegalArgumentException,IllegalStateException",
        "int ending(int,int,int,int) IndexOutOfBoundsException,IllegalArgumentException,IllegalStateException",
        "int sign(int,int) IllegalArgumentException,IndexOutOfBoundsException",
        "void jump(int,int,int,boolean) IndexOutOfBoundsException,IllegalArgumentException",
        "void plain(int) IndexOutOfBoundsException,IllegalStateException",
        "int unfold() ",
        "int fault() ",
        "int played(int,int) IndexOutOfBoundsException,IllegalArgumentException",
        "int times(int) IndexOutOfBoundsException",
        "int comes(int) IndexOutOfBoundsException",
        "int fold(int,int) IllegalArgumentException,IndexOutOfBoundsException",
        "int folded(int,int) IndexOutOfBoundsException,IllegalArgumentException",
        "int told(int) IllegalArgumentException",
    };

    public static void main(String[] args) {
        Class<?> c = RepeatWays.class;
        Check.is("the class", Modifier.toString(c.getModifiers()), "public final");
        methods(c);
        fields(c);
        constructors(c);
        Check.end();
    }

    private static String names(Class<?>[] types) {
        return Arrays.stream(types).map(Class::getSimpleName).collect(Collectors.joining(","));
    }

    private static void methods(Class<?> c) {
        Set<String> seen = new TreeSet<>();
        Set<String> publicNames = new TreeSet<>();
        for (Method m : c.getDeclaredMethods()) {
            if (!Modifier.isPrivate(m.getModifiers())) {
                publicNames.add(m.getName());
                Check.is("modifiers of " + m, Modifier.toString(m.getModifiers()), "public");
                seen.add(m.getReturnType() + " " + m.getName() + "(" + names(m.getParameterTypes()) + ") "
                        + names(m.getExceptionTypes()));
            }
        }
        Check.is("methods", seen, new TreeSet<>(Arrays.asList(FACE)));
        for (Class<?> inside : c.getDeclaredClasses()) {
            Check.is(inside + " is static", Modifier.isStatic(inside.getModifiers()), true);
            for (Method m : inside.getDeclaredMethods()) {
                Check.is(m + " bears a public method's name", publicNames.contains(m.getName()), false);
            }
        }
    }

    private static void fields(Class<?> c) {
        for (Field f : c.getDeclaredFields()) {
            String want = f.getName().equals("NONE") ? "public static final" : "private";
            Check.is(f.toString(), Modifier.toString(f.getModifiers()).startsWith(want), true);
        }
    }

    private static void constructors(Class<?> c) {
        Constructor<?>[] all = c.getDeclaredConstructors();
        Check.is("constructors", all.length, 1);
        Check.is("its inputs", all[0].getParameterCount(), 0);
        Check.is("it is public", Modifier.toString(all[0].getModifiers()), "public");
    }
}
