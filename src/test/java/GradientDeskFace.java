import java.lang.reflect.Constructor;
import java.lang.reflect.Field;
import java.lang.reflect.Method;
import java.lang.reflect.Modifier;
import java.util.Set;
import java.util.TreeSet;

/** The public face of the document, and that the class has no other member that can be seen from outside. */
public final class GradientDeskFace extends Bench {
    private static final String ARGUMENT = " throws IllegalArgumentException";
    private static final String INDEX = " throws IndexOutOfBoundsException";
    private static final String OR_ARGUMENT = ",IllegalArgumentException";
    private static final String OR_ELEMENT = ",NoSuchElementException";

    private static final Set<String> METHODS = Set.of(
            "public int type(long,int)" + ARGUMENT + ",IllegalStateException",
            "public int define(int)" + ARGUMENT,
            "public int place()",
            "public int derive(int,int,int)" + ARGUMENT + OR_ELEMENT,
            "public int made()",
            "public int parts(int)" + ARGUMENT + OR_ELEMENT,
            "public int part(int,int)" + INDEX + OR_ARGUMENT,
            "public boolean number(int,int)" + INDEX,
            "public void clear()",
            "public void set(int,int,int)" + ARGUMENT,
            "public void gradient(int)" + ARGUMENT + OR_ELEMENT,
            "public void along(int,int,int,int)" + ARGUMENT + OR_ELEMENT,
            "public boolean reckon(int,int,int,int)" + INDEX + OR_ARGUMENT,
            "public int compare(int,int)" + INDEX,
            "public int sign(int)" + INDEX,
            "public int bits(int,int)" + INDEX + OR_ARGUMENT,
            "public int word(int,int,int)" + INDEX + OR_ARGUMENT,
            "public int write(int)" + ARGUMENT + OR_ELEMENT,
            "public int written(int)" + INDEX);

    public static void main(String[] args) throws IllegalAccessException {
        about("the public face");
        due("the class", Modifier.toString(GradientDesk.class.getModifiers()), "public final");
        constructors();
        constants();
        methods();
        classesInside();
        end("the face is that of the document");
    }

    private static void constructors() {
        Constructor<?>[] all = GradientDesk.class.getDeclaredConstructors();
        due("how many constructors", all.length, 1);
        due("the constructor", all[0].toString(), "public GradientDesk()");
    }

    private static void constants() throws IllegalAccessException {
        Set<String> seen = new TreeSet<>();
        for (Field field : GradientDesk.class.getDeclaredFields()) {
            if (!Modifier.isPrivate(field.getModifiers())) {
                seen.add(field.toString() + " = " + field.get(null));
            }
        }
        String kind = "public static final int GradientDesk.";
        due("the constants", seen, new TreeSet<>(
                Set.of(kind + "SYNTAX = -1", kind + "UNKNOWN = -2", kind + "LARGE = -3", kind + "FULL = -4")));
    }

    private static void methods() {
        Set<String> seen = new TreeSet<>();
        Set<String> names = new TreeSet<>();
        for (Method method : GradientDesk.class.getDeclaredMethods()) {
            if (!Modifier.isPrivate(method.getModifiers())) {
                seen.add(method.toString().replace("GradientDesk.", "").replace("java.lang.", "").replace("java.util.", ""));
                names.add(method.getName());
            }
        }
        due("the methods", seen, new TreeSet<>(METHODS));
        for (Method method : GradientDesk.class.getDeclaredMethods()) {
            boolean hidden = Modifier.isPrivate(method.getModifiers());
            due("whether a private method is called " + method.getName(), hidden && names.contains(method.getName()), false);
        }
    }

    private static void classesInside() {
        for (Class<?> inside : GradientDesk.class.getDeclaredClasses()) {
            int kind = inside.getModifiers();
            boolean open = Modifier.isPublic(kind) || Modifier.isProtected(kind);
            due("whether " + inside.getName() + " is static and not public", Modifier.isStatic(kind) && !open, true);
        }
    }
}
