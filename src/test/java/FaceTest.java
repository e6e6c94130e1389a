import java.lang.reflect.Constructor;
import java.lang.reflect.Field;
import java.lang.reflect.Method;
import java.lang.reflect.Modifier;
import java.util.ArrayList;
import java.util.Arrays;
import java.util.List;
import java.util.TreeSet;

/** The public face is the document's, word for word, and nothing else of the class can be seen. */
public final class FaceTest {
    private static final String IO = "IndexOutOfBoundsException";
    private static final String IA = "IllegalArgumentException";
    private static final String IS = "IllegalStateException";

    private static final String[] METHODS = {
        "int tune(int) " + IA + " " + IS,
        "int note(int int int int) " + IO + " " + IA + " " + IS,
        "int part(int boolean) " + IO + " " + IS,
        "int played(int int int) " + IO + " " + IA,
        "int ofTune(int int) " + IO + " " + IA,
        "int alike(int int) " + IO,
        "int alikeAnew(int int) " + IO,
        "int follow(int int) " + IO + " " + IA + " " + IS,
        "int drop() " + IS,
        "long time()",
        "int piper(int int int) " + IA + " " + IS,
        "int seat(int int) " + IO + " " + IA,
        "boolean rest(int boolean) " + IO,
        "int play(int int int) " + IA,
        "int ofPiper(int int) " + IO + " " + IA,
        "int spread()",
        "int odd()",
        "float beats(int int) " + IO,
        "int ahead(int int int) " + IA,
        "int band(int) " + IA + " " + IS,
        "int contest(int) " + IA + " " + IS,
        "int mark(int int int) " + IO + " " + IA + " " + IS,
        "int close() " + IS,
        "int season() " + IS,
        "int ofBand(int int) " + IO + " " + IA,
    };

    private static final String[] CONSTANTS = {
        "NONE=-1", "MARCH=0", "STRATHSPEY=1", "REEL=2", "JIG=3",
        "PLAIN=0", "D=1", "E=2", "HIGH=3", "THUMB=4", "DOUBLING=5", "GRIP=6", "THROW=7", "BIRL=8",
    };

    public static void main(String[] args) throws IllegalAccessException {
        Check check = new Check("FaceTest");
        check.answers(true, "the class is public and final",
            () -> Modifier.isPublic(Dronegrade.class.getModifiers()) && Modifier.isFinal(Dronegrade.class.getModifiers()));
        check.answers(new TreeSet<>(Arrays.asList(METHODS)), "methods", FaceTest::methods);
        check.answers(METHODS.length, "number of methods", () -> methods().size());
        check.answers(new TreeSet<>(Arrays.asList(CONSTANTS)), "constants", FaceTest::constants);
        check.answers("[public ()]", "constructors", FaceTest::constructors);
        check.answers("[]", "classes inside that are public, protected or not static", FaceTest::openClasses);
        check.answers("[]", "private methods with the name of a public one", FaceTest::namesTwice);
        check.finish();
    }

    private static String typesOf(Class<?>[] types) {
        List<String> names = new ArrayList<>();
        for (Class<?> type : types) {
            names.add(type.getSimpleName());
        }
        return String.join(" ", names);
    }

    private static TreeSet<String> methods() {
        TreeSet<String> faces = new TreeSet<>();
        for (Method method : Dronegrade.class.getDeclaredMethods()) {
            if (Modifier.isPrivate(method.getModifiers()) || method.isSynthetic()) {
                continue;
            }
            String face = method.getReturnType().getSimpleName() + " " + method.getName()
                + "(" + typesOf(method.getParameterTypes()) + ") " + typesOf(method.getExceptionTypes());
            boolean isPlain = method.getModifiers() == Modifier.PUBLIC;
            faces.add((isPlain ? "" : Modifier.toString(method.getModifiers()) + " ") + face.trim());
        }
        return faces;
    }

    private static TreeSet<String> constants() {
        TreeSet<String> constants = new TreeSet<>();
        for (Field field : Dronegrade.class.getDeclaredFields()) {
            if (Modifier.isPrivate(field.getModifiers()) || field.isSynthetic()) {
                continue;
            }
            boolean isConstant = field.getModifiers() == (Modifier.PUBLIC | Modifier.STATIC | Modifier.FINAL)
                && field.getType() == int.class;
            constants.add(field.getName() + "=" + (isConstant ? valueOf(field) : "no constant"));
        }
        return constants;
    }

    private static String valueOf(Field field) {
        try {
            return String.valueOf(field.getInt(null));
        } catch (IllegalAccessException e) {
            return "hidden";
        }
    }

    private static List<String> constructors() {
        List<String> faces = new ArrayList<>();
        for (Constructor<?> constructor : Dronegrade.class.getDeclaredConstructors()) {
            if (!Modifier.isPrivate(constructor.getModifiers())) {
                faces.add(Modifier.toString(constructor.getModifiers()) + " (" + typesOf(constructor.getParameterTypes()) + ")");
            }
        }
        return faces;
    }

    private static List<String> openClasses() {
        List<String> open = new ArrayList<>();
        for (Class<?> inside : Dronegrade.class.getDeclaredClasses()) {
            int modifiers = inside.getModifiers();
            if (Modifier.isPublic(modifiers) || Modifier.isProtected(modifiers) || !Modifier.isStatic(modifiers)) {
                open.add(inside.getSimpleName());
            }
        }
        return open;
    }

    private static TreeSet<String> namesTwice() {
        TreeSet<String> open = new TreeSet<>();
        TreeSet<String> twice = new TreeSet<>();
        for (Method method : Dronegrade.class.getDeclaredMethods()) {
            if (!Modifier.isPrivate(method.getModifiers())) {
                open.add(method.getName());
            }
        }
        addNamesTwice(Dronegrade.class, open, twice);
        for (Class<?> inside : Dronegrade.class.getDeclaredClasses()) {
            addNamesTwice(inside, open, twice);
        }
        return twice;
    }

    private static void addNamesTwice(Class<?> in, TreeSet<String> open, TreeSet<String> twice) {
        for (Method method : in.getDeclaredMethods()) {
            if (Modifier.isPrivate(method.getModifiers()) && open.contains(method.getName())) {
                twice.add(method.getName());
            }
        }
    }
}
