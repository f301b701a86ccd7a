import java.lang.reflect.Constructor;
import java.lang.reflect.Field;
import java.lang.reflect.Method;
import java.lang.reflect.Modifier;
import java.util.Arrays;
import java.util.Set;
import java.util.TreeSet;

/** The public face: every member of the document, and no other that is not private. */
public final class FaceTest {
    private static final String[] METHODS = {
        "int farmer(int, int, int)", "int credit(int, int, int)", "int basket(int, int, int, int)",
        "int feed(int, int, int, int, int)", "int end(int)", "int contract()", "int fault()",
        "long of(int, int, int)", "long group(int, int, int)", "int bears(int)",
        "int drought(int, int, int)", "int visit(int, int)", "int clear()", "int most(int)",
        "int least(int, int)", "int led(int, int)", "int count(int)", "int status()",
    };

    public static void main(String[] args) {
        Class<?> face = MillFarmers.class;
        Check.that("the class is public and final",
                Modifier.isPublic(face.getModifiers()) && Modifier.isFinal(face.getModifiers()));
        methods(face);
        fields(face);
        Constructor<?>[] all = face.getDeclaredConstructors();
        Check.that("one constructor, public and without arguments", all.length == 1
                && Modifier.isPublic(all[0].getModifiers()) && all[0].getParameterCount() == 0);
        Check.due("NONE", MillFarmers.NONE, -1);
        inside(face);
        Check.finish();
    }

    private static void methods(Class<?> face) {
        Set<String> open = new TreeSet<>();
        Set<String> names = new TreeSet<>();
        for (Method m : face.getDeclaredMethods()) {
            if (Modifier.isPublic(m.getModifiers())) {
                open.add(told(m));
                names.add(m.getName());
            } else {
                Check.that(m.getName() + " is private", Modifier.isPrivate(m.getModifiers()));
            }
        }
        Check.that("the public methods are those of the document, and not " + open,
                open.equals(new TreeSet<>(Arrays.asList(METHODS))));
        noneNamedAlike(face, names);
        for (Class<?> c : face.getDeclaredClasses()) {
            noneNamedAlike(c, names);
        }
    }

    private static void noneNamedAlike(Class<?> c, Set<String> names) {
        for (Method m : c.getDeclaredMethods()) {
            Check.that(c + "." + m.getName() + " is no private method with a public one's name",
                    Modifier.isPublic(m.getModifiers()) || !names.contains(m.getName()));
            Check.that(c + "." + m.getName() + " takes at most seven numbers", m.getParameterCount() <= 7);
        }
    }

    private static String told(Method m) {
        String parameters = Arrays.toString(m.getParameterTypes());
        return m.getReturnType() + " " + m.getName() + "("
                + parameters.substring(1, parameters.length() - 1) + ")";
    }

    private static void fields(Class<?> face) {
        for (Field f : face.getDeclaredFields()) {
            boolean none = f.getName().equals("NONE");
            Check.that(f.getName() + " is open only if the document has it",
                    none ? Modifier.isPublic(f.getModifiers()) : Modifier.isPrivate(f.getModifiers()));
            Check.that(f.getName() + " is final if static",
                    !Modifier.isStatic(f.getModifiers()) || Modifier.isFinal(f.getModifiers()));
        }
    }

    private static void inside(Class<?> face) {
        Class<?>[] own = face.getDeclaredClasses();
        Check.that("at most twelve classes", own.length < 12);
        for (Class<?> c : own) {
            Check.that(c + " is static", Modifier.isStatic(c.getModifiers()));
            Check.that(c + " is not public or protected",
                    !Modifier.isPublic(c.getModifiers()) && !Modifier.isProtected(c.getModifiers()));
            for (Field f : c.getDeclaredFields()) {
                Check.that(c + "." + f.getName() + " is final if static",
                        !Modifier.isStatic(f.getModifiers()) || Modifier.isFinal(f.getModifiers()));
            }
        }
    }
}
