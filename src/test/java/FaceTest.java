import java.lang.reflect.Constructor;
import java.lang.reflect.Field;
import java.lang.reflect.Method;
import java.lang.reflect.Modifier;
import java.util.Arrays;
import java.util.Set;
import java.util.TreeSet;

/** The public face is the document's, and nothing else can be seen from outside. */
public final class FaceTest {
    private static final String[] FACE = {
        "public int UpdatePacks.controller(int)",
        "public void UpdatePacks.octet(byte)",
        "public int UpdatePacks.package0(int,int,boolean)",
        "public byte UpdatePacks.digest(int) throws java.lang.ArrayIndexOutOfBoundsException",
        "public int UpdatePacks.needs(int,int)",
        "public int UpdatePacks.block(int,int,byte)",
        "public int UpdatePacks.condition(int,boolean)",
        "public int UpdatePacks.step(int)",
        "public int UpdatePacks.cut()",
        "public int UpdatePacks.boot(int)",
        "public byte UpdatePacks.bank(int,int,long) throws java.lang.ArrayIndexOutOfBoundsException",
        "public int UpdatePacks.joint()",
        "public int UpdatePacks.rollback()",
        "public int UpdatePacks.silent(int,boolean)",
        "public int UpdatePacks.counter(int)"
    };

    public static void main(String[] args) {
        Class<?> face = UpdatePacks.class;
        Due.is("the class is public and final", face.getModifiers(), Modifier.PUBLIC | Modifier.FINAL);
        Due.is("it extends nothing", face.getSuperclass() == Object.class ? 1 : 0, 1);
        Due.is("interfaces", face.getInterfaces().length, 0);
        Set<String> seen = new TreeSet<>();
        Set<String> names = new TreeSet<>();
        for (Method m : face.getDeclaredMethods()) {
            if (!Modifier.isPrivate(m.getModifiers())) {
                seen.add(m.toGenericString());
                names.add(m.getName());
            }
        }
        Due.is("methods " + seen, seen.equals(new TreeSet<>(Arrays.asList(FACE))) ? 1 : 0, 1);
        for (Method m : face.getDeclaredMethods()) {
            if (Modifier.isPrivate(m.getModifiers())) {
                Due.is("a private " + m.getName(), names.contains(m.getName()) ? 1 : 0, 0);
            }
        }
        for (Field f : face.getDeclaredFields()) {
            Due.is("a private field " + f.getName(), Modifier.isPrivate(f.getModifiers()) ? 1 : 0, 1);
            if (Modifier.isStatic(f.getModifiers())) {
                Due.is("a final " + f.getName(), Modifier.isFinal(f.getModifiers()) ? 1 : 0, 1);
            }
        }
        Constructor<?>[] made = face.getDeclaredConstructors();
        Due.is("constructors", made.length, 1);
        Due.is("its parameters", made[0].getParameterCount(), 0);
        Due.is("it is public", made[0].getModifiers(), Modifier.PUBLIC);
        for (Class<?> inside : face.getDeclaredClasses()) {
            Due.is("a static " + inside.getName(), Modifier.isStatic(inside.getModifiers()) ? 1 : 0, 1);
            Due.is("a hidden " + inside.getName(), Modifier.isPublic(inside.getModifiers()) ? 1 : 0, 0);
        }
        Due.end();
    }
}
