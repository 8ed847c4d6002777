import java.lang.reflect.Constructor;
import java.lang.reflect.Field;
import java.lang.reflect.Method;
import java.lang.reflect.Modifier;
import java.util.Arrays;
import java.util.TreeSet;

/** The public face is the document's, no more and no less (LANGUAGE.md, rule 1). */
public final class FaceTest {
    private static final String[] FACE = {
        "int at(int,int) [IndexOutOfBoundsException]",
        "int event(char,int,int,int) [IllegalStateException, IllegalArgumentException]",
        "int fault() []",
        "int figure(int) [IllegalArgumentException]",
        "int load() [IllegalArgumentException]",
        "int run(int,int) [IndexOutOfBoundsException, IllegalArgumentException]",
        "int runs() []",
        "int size(int) [IndexOutOfBoundsException]",
        "boolean type(char) []",
        "void wipe() []",
    };

    public static void main(String[] args) {
        Class<?> c = PatternWatch.class;
        Check.due("public and final", Modifier.PUBLIC | Modifier.FINAL, c.getModifiers());
        Check.due("no package", 0, c.getPackageName().length());
        methods(c);
        fields(c);
        Constructor<?>[] made = c.getDeclaredConstructors();
        Check.due("constructors", 1, made.length);
        Check.due("constructor's parameters", 0, made[0].getParameterCount());
        Check.due("constructor is public", Modifier.PUBLIC, made[0].getModifiers());
        Check.end();
    }

    private static void methods(Class<?> c) {
        TreeSet<String> visible = new TreeSet<>();
        TreeSet<String> publicNames = new TreeSet<>();
        for (Method m : c.getDeclaredMethods()) {
            if (!Modifier.isPrivate(m.getModifiers())) {
                Check.due(m.getName() + " is public", Modifier.PUBLIC, m.getModifiers());
                visible.add(shape(m));
                publicNames.add(m.getName());
            }
        }
        for (String want : FACE) {
            Check.due("has " + want, true, visible.remove(want));
        }
        Check.due("nothing beside the face: " + visible, 0, visible.size());
        for (Method m : c.getDeclaredMethods()) {
            boolean hides = Modifier.isPrivate(m.getModifiers()) && publicNames.contains(m.getName());
            Check.due("private " + m.getName() + " bears a public name", false, hides);
        }
    }

    private static void fields(Class<?> c) {
        for (Field f : c.getDeclaredFields()) {
            Check.due(f.getName() + " is private", true, Modifier.isPrivate(f.getModifiers()));
            boolean fixed = !Modifier.isStatic(f.getModifiers()) || Modifier.isFinal(f.getModifiers());
            Check.due(f.getName() + ", if static, is final", true, fixed);
        }
    }

    private static String shape(Method m) {
        StringBuilder s = new StringBuilder(m.getReturnType().getSimpleName()).append(' ').append(m.getName());
        String[] parameters =
            Arrays.stream(m.getParameterTypes()).map(Class::getSimpleName).toArray(String[]::new);
        String[] thrown = Arrays.stream(m.getExceptionTypes()).map(Class::getSimpleName).toArray(String[]::new);
        s.append('(').append(String.join(",", parameters)).append(") ").append(Arrays.toString(thrown));
        return s.toString();
    }
}
