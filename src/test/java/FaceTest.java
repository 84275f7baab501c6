import java.lang.reflect.Constructor;
import java.lang.reflect.Field;
import java.lang.reflect.Method;
import java.lang.reflect.Modifier;
import java.util.Arrays;
import java.util.List;
import java.util.Set;
import java.util.TreeSet;

/** The public face is the document's, and nothing beside it can be seen (rules 1 and 5 of LANGUAGE.md). */
public final class FaceTest {
    private static final List<String> FACE = List.of(
        "int call()", "int act(int,int,int,int,long)", "int clear()", "boolean leaf(int,long)", "boolean bound(int)",
        "int run(int,int)", "long at(int)", "long inOrder(int)", "int events()", "long event(int,int)",
        "int of(int,int)", "int conflicts()", "int conflict(int,int)", "int told(int)");

    public static void main(String[] args) {
        Due due = new Due();
        Class<?> c = ParallelUndo.class;
        due.is("the class is public and final", c.getModifiers(), Modifier.PUBLIC | Modifier.FINAL);
        Set<String> names = new TreeSet<>();
        Set<String> seen = new TreeSet<>();
        for (Method m : c.getDeclaredMethods()) {
            if (Modifier.isPublic(m.getModifiers())) {
                seen.add(written(m));
                names.add(m.getName());
                due.is(m + " is public alone", m.getModifiers(), Modifier.PUBLIC);
            }
        }
        due.is("the methods are those of the document: " + seen, seen.equals(new TreeSet<>(FACE)), true);
        constructors(due, c);
        fields(due, c);
        privates(due, c, names, true);
        for (Class<?> inside : c.getDeclaredClasses()) {
            due.is(inside + " is static", Modifier.isStatic(inside.getModifiers()), true);
            due.is(inside + " is not public", Modifier.isPublic(inside.getModifiers()), false);
            privates(due, inside, names, false);
        }
        due.close("FaceTest");
    }

    private static String written(Method m) {
        String types = Arrays.toString(Arrays.stream(m.getParameterTypes()).map(Class::getName).toArray());
        return m.getReturnType() + " " + m.getName() + "("
            + types.substring(1, types.length() - 1).replace(" ", "") + ")";
    }

    private static void constructors(Due due, Class<?> c) {
        Constructor<?>[] all = c.getDeclaredConstructors();
        due.is("one constructor", all.length, 1);
        due.is("without parameters", all[0].getParameterCount(), 0);
        due.is("public", all[0].getModifiers(), Modifier.PUBLIC);
    }

    private static void fields(Due due, Class<?> c) {
        for (Field f : c.getDeclaredFields()) {
            boolean none = f.getName().equals("NONE");
            due.is(f + " is seen or not", Modifier.isPublic(f.getModifiers()), none);
            due.is(f + " is hidden or not", Modifier.isPrivate(f.getModifiers()), !none);
            due.is(f + " is final if static",
                !Modifier.isStatic(f.getModifiers()) || Modifier.isFinal(f.getModifiers()), true);
        }
    }

    private static void privates(Due due, Class<?> c, Set<String> names, boolean outer) {
        for (Method m : c.getDeclaredMethods()) {
            if (!Modifier.isPublic(m.getModifiers())) {
                due.is(m + " bears no name of the face", names.contains(m.getName()), false);
                due.is(m + " is private in the class itself", !outer || Modifier.isPrivate(m.getModifiers()), true);
            }
        }
    }
}
