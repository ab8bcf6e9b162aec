import java.lang.reflect.Constructor;
import java.lang.reflect.Field;
import java.lang.reflect.Method;
import java.lang.reflect.Modifier;
import java.util.Arrays;
import java.util.TreeSet;

/** The class shows the document's face and nothing else. */
public final class FaceTest {
    private static final String[] METHODS = {
        "boolean section(int, boolean, int, int)", "boolean tracks(int, int)", "boolean headway(int)",
        "boolean works(int, int, int)", "int bid(int, int, int, int)", "boolean link(int, int)", "int find(int)",
        "boolean give(int)", "boolean drop(int)", "int round()", "int best()", "int path(int, int)", "int why(int)",
        "boolean delay(int, int, int)", "int ran(int, int)", "int blame(int, int)", "int balance(int)", "int count(int)"};

    public static void main(String[] args) {
        Class<?> face = FreightPaths.class;
        Due.due("public and final", Modifier.isPublic(face.getModifiers()) && Modifier.isFinal(face.getModifiers()), true);
        methods(face);
        for (Constructor<?> c : face.getDeclaredConstructors()) {
            Due.due(c.toString(), Modifier.isPublic(c.getModifiers()) && Arrays.equals(c.getParameterTypes(), new Class<?>[] {int.class}), true);
        }
        for (Field f : face.getDeclaredFields()) {
            int how = f.getModifiers();
            Due.due(f.toString(), Modifier.isPrivate(how), !f.getName().equals("NONE"));
            Due.due(f + " is final", Modifier.isFinal(how), true);
        }
        for (Class<?> inside : face.getDeclaredClasses()) {
            int how = inside.getModifiers();
            Due.due(inside + " is static", Modifier.isStatic(how), true);
            Due.due(inside + " isn't public", Modifier.isPublic(how) || Modifier.isProtected(how), false);
            Due.due(inside + " has no more than some twenty fields", inside.getDeclaredFields().length <= 20, true);
        }
        Due.due("no more than some twelve classes", face.getDeclaredClasses().length <= 11, true);
        Due.finish("FaceTest");
    }

    private static void methods(Class<?> face) {
        TreeSet<String> shown = new TreeSet<>();
        TreeSet<String> names = new TreeSet<>();
        for (Method m : face.getDeclaredMethods()) {
            if (!Modifier.isPrivate(m.getModifiers()) && !m.isSynthetic()) {
                Due.due(m + " is public and not static", Modifier.isPublic(m.getModifiers()) && !Modifier.isStatic(m.getModifiers()), true);
                String takes = Arrays.toString(m.getParameterTypes());
                shown.add(m.getReturnType() + " " + m.getName() + "(" + takes.substring(1, takes.length() - 1) + ")");
                names.add(m.getName());
            }
        }
        Due.due("the methods are those of the document: " + shown, shown.equals(new TreeSet<>(Arrays.asList(METHODS))), true);
        TreeSet<String> own = new TreeSet<>();
        for (Class<?> inside : face.getDeclaredClasses()) {
            for (Method m : inside.getDeclaredMethods()) {
                own.add(m.getName());
                Due.due(m + " takes at most seven", m.getParameterCount() <= 7, true);
            }
        }
        for (Method m : face.getDeclaredMethods()) {
            if (Modifier.isPrivate(m.getModifiers())) {
                own.add(m.getName());
            }
        }
        own.retainAll(names);
        Due.due("own methods with a name of the face: " + own, own.size(), 0);
    }
}
