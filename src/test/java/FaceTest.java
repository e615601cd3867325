import java.lang.reflect.Constructor;
import java.lang.reflect.Field;
import java.lang.reflect.Method;
import java.lang.reflect.Modifier;
import java.util.Arrays;
import java.util.TreeSet;

/** The face has what the document names, and nothing else can be seen from outside. */
public final class FaceTest {
    public static void main(String[] args) {
        TreeSet<String> due = new TreeSet<>(Arrays.asList(
                "void deposit[int, int] [IllegalArgumentException]",
                "int examine[int] [IllegalArgumentException]",
                "void set[int, int] [IllegalArgumentException]",
                "int register[int] [IllegalArgumentException]",
                "void start[int] [IllegalArgumentException]",
                "int run[int] [IllegalArgumentException, IllegalStateException]",
                "void key[int] [IllegalArgumentException]",
                "int printed[int] [IndexOutOfBoundsException]",
                "void load[int, int, int] [IllegalArgumentException]",
                "int disk[int, int] [IllegalArgumentException]",
                "int device[int] []",
                "int state[] []"));
        TreeSet<String> found = new TreeSet<>();
        for (Method method : UnibusMachine.class.getDeclaredMethods()) {
            if (!Modifier.isPrivate(method.getModifiers())) {
                Check.yes(method + " is public", Modifier.isPublic(method.getModifiers()));
                found.add(method.getReturnType() + " " + method.getName()
                        + names(method.getParameterTypes()) + " " + names(method.getExceptionTypes()));
            }
        }
        System.out.println(found.equals(due) ? "the face is the document's" : "the face is " + found);
        Check.yes("the methods are those of the document", found.equals(due));
        Check.yes("the class is public", Modifier.isPublic(UnibusMachine.class.getModifiers()));
        Check.yes("the class is final", Modifier.isFinal(UnibusMachine.class.getModifiers()));
        Constructor<?>[] constructors = UnibusMachine.class.getDeclaredConstructors();
        Check.same("constructors", constructors.length, 1);
        Check.same("parameters of the constructor", constructors[0].getParameterCount(), 0);
        Check.yes("the constructor is public", Modifier.isPublic(constructors[0].getModifiers()));
        for (Field field : UnibusMachine.class.getDeclaredFields()) {
            Check.yes(field + " is private", Modifier.isPrivate(field.getModifiers()));
        }
        Check.end();
    }

    private static String names(Class<?>[] classes) {
        String[] names = new String[classes.length];
        for (int i = 0; i < classes.length; i++) {
            names[i] = classes[i].getSimpleName();
        }
        return Arrays.toString(names);
    }
}
