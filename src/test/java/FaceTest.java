import java.lang.reflect.Constructor;
import java.lang.reflect.Field;
import java.lang.reflect.Method;
import java.lang.reflect.Modifier;
import java.util.Arrays;
import java.util.List;
import java.util.NoSuchElementException;
import java.util.Set;
import java.util.TreeSet;

/** The public face is that of the document, and there is no other member to be seen. */
public final class FaceTest {
    private static final List<String> FACE = List.of(
            "int put(int, int, long)", "int take(int, int)", "long get(int, int)",
            "int needs(int, int, boolean)", "int version(int)", "int mode(int)", "int busy(boolean)",
            "int save(boolean)", "byte octet(int)", "int cut(int)", "int add(byte)", "int poke(int, int)",
            "int load()", "int told(int, int)", "int count(int)", "boolean same(int, int)");

    public static void main(String[] args) throws NoSuchMethodException {
        Due due = new Due();
        Class<?> c = FormatFiles.class;
        due.is("public and final", Modifier.isPublic(c.getModifiers()) && Modifier.isFinal(c.getModifiers()), true);
        due.is("no class above it but Object", c.getSuperclass() == Object.class, true);
        due.is("constructors", c.getDeclaredConstructors().length, 1);
        for (Constructor<?> k : c.getDeclaredConstructors()) {
            due.is("public constructor without parameters",
                    Modifier.isPublic(k.getModifiers()) && k.getParameterCount() == 0, true);
        }
        Set<String> seen = new TreeSet<>();
        Set<String> publicNames = new TreeSet<>();
        Set<String> privateNames = new TreeSet<>();
        for (Method m : c.getDeclaredMethods()) {
            if (Modifier.isPrivate(m.getModifiers())) {
                privateNames.add(m.getName());
            } else {
                publicNames.add(m.getName());
                due.is(m + " is public", Modifier.isPublic(m.getModifiers()), true);
                due.is(m + " is not static", Modifier.isStatic(m.getModifiers()), false);
                seen.add(textOf(m));
            }
        }
        due.is("the methods " + seen + " are those of the document", seen.equals(new TreeSet<>(FACE)), true);
        privateNames.retainAll(publicNames);
        due.is("private methods with public names " + privateNames, privateNames.size(), 0);
        for (Field f : c.getDeclaredFields()) {
            due.is(f + " is private", Modifier.isPrivate(f.getModifiers()), true);
            due.is(f + " is final, if static", !Modifier.isStatic(f.getModifiers())
                    || Modifier.isFinal(f.getModifiers()), true);
        }
        for (Class<?> inner : c.getDeclaredClasses()) {
            due.is(inner + " is static, not public", Modifier.isStatic(inner.getModifiers())
                    && !Modifier.isPublic(inner.getModifiers()), true);
        }
        due.is("get tells its exception", Arrays.equals(
                c.getMethod("get", int.class, int.class).getExceptionTypes(),
                new Class<?>[] {NoSuchElementException.class}), true);
        due.is("octet tells its exception", Arrays.equals(
                c.getMethod("octet", int.class).getExceptionTypes(),
                new Class<?>[] {ArrayIndexOutOfBoundsException.class}), true);
        due.end();
    }

    private static String textOf(Method m) {
        StringBuilder text = new StringBuilder(m.getReturnType().getName() + " " + m.getName() + "(");
        for (int i = 0; i < m.getParameterCount(); i++) {
            text.append(i == 0 ? "" : ", ").append(m.getParameterTypes()[i].getName());
        }
        return text.append(")").toString();
    }
}
