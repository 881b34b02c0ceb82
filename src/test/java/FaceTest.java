import java.lang.reflect.Constructor;
import java.lang.reflect.Field;
import java.lang.reflect.Method;
import java.lang.reflect.Modifier;
import java.util.Arrays;
import java.util.HashSet;
import java.util.Set;
import java.util.TreeSet;
import java.util.stream.Collectors;

/** The class has the document's face, and no member beside it that could be seen from outside. */
public final class FaceTest {
    private static final String[] FACE = {
        "int put(int, int)", "int cell(int, int, int, int)", "int pass(int, int)", "int hang(int, boolean)",
        "int cold(int, int, int)", "int help(int, int)", "int man(int, int, int, int, int)", "int coat(int, boolean)",
        "int broken(int, int, int)", "int open(int, boolean)", "int plan(int, int)", "int type(long, int)",
        "int clear()", "int carriage()", "int warmth(int, int, int, int)", "int feels(int, int, int, int)",
        "int fuel(int, int, int, int)", "int worst(int, int)", "int falls(int, int, int)", "int fair(int, int)",
        "int best(int)", "int take()", "int sit(int, int, int)", "int coats(int, int, int)", "int fewest(int, int)",
        "int saved(int, int)", "int keep(int)", "int worth(int, int, int)", "int when(int, int)", "long part(int)",
        "int image(int)", "int from(int)", "int count(int)", "long digest()"};
    private static int wrong = 0;

    private static void check(boolean is, String what) {
        if (!is) {
            wrong++;
            System.out.println("not so: " + what);
        }
    }

    private static String written(Method m) {
        return m.getReturnType() + " " + m.getName() + Arrays.stream(m.getParameterTypes()).map(Class::getName)
            .collect(Collectors.joining(", ", "(", ")"));
    }

    public static void main(String[] args) throws IllegalAccessException {
        Class<?> face = WarmNight.class;
        check(Modifier.isPublic(face.getModifiers()) && Modifier.isFinal(face.getModifiers()), "public and final");
        check(face.getSuperclass() == Object.class && face.getInterfaces().length == 0, "under Object alone");
        Set<String> seen = new TreeSet<>();
        Set<String> publicNames = new HashSet<>();
        Set<String> privateNames = new HashSet<>();
        for (Method m : face.getDeclaredMethods()) {
            if (Modifier.isPrivate(m.getModifiers())) {
                privateNames.add(m.getName());
            } else {
                seen.add(written(m));
                publicNames.add(m.getName());
                check(Modifier.isPublic(m.getModifiers()) && !Modifier.isStatic(m.getModifiers()), "public: " + m);
            }
        }
        check(seen.equals(new TreeSet<>(Arrays.asList(FACE))), "the methods are the face's: " + seen);
        Constructor<?>[] constructors = face.getDeclaredConstructors();
        check(constructors.length == 1 && Modifier.isPublic(constructors[0].getModifiers())
            && constructors[0].getParameterCount() == 0, "one public constructor");
        Set<String> constants = new TreeSet<>();
        for (Field f : face.getDeclaredFields()) {
            if (!Modifier.isPrivate(f.getModifiers())) {
                check(f.getType() == int.class && Modifier.isPublic(f.getModifiers()) && Modifier.isStatic(f.getModifiers())
                    && Modifier.isFinal(f.getModifiers()), "a constant: " + f);
                constants.add(f.getName() + " " + f.getInt(null));
            }
        }
        check(constants.equals(new TreeSet<>(Arrays.asList("NONE -1", "BAD -100000", "NO -200000", "FULL -300000"))),
            "the constants are the face's: " + constants);
        for (Class<?> inner : face.getDeclaredClasses()) {
            check(Modifier.isStatic(inner.getModifiers()) && !Modifier.isPublic(inner.getModifiers())
                && !Modifier.isProtected(inner.getModifiers()), "static and not public: " + inner);
            for (Method m : inner.getDeclaredMethods()) privateNames.add(m.getName());
        }
        privateNames.retainAll(publicNames);
        check(privateNames.isEmpty(), "no own method bears the name of a public one: " + privateNames);
        check(face.getDeclaredClasses().length <= 11, "some twelve classes");
        System.out.println(wrong == 0 ? "the face is the document's" : wrong + " faults of the face");
        if (wrong != 0) System.exit(1);
    }
}
