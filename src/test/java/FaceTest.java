import java.lang.reflect.Constructor;
import java.lang.reflect.Field;
import java.lang.reflect.Method;
import java.lang.reflect.Modifier;
import java.util.Arrays;
import java.util.Set;
import java.util.TreeSet;
import java.util.stream.Collectors;

/** The class has the document's face, with its throws, and shows nothing else. */
public final class FaceTest {
    private static final String OUT = " IndexOutOfBoundsException";
    private static final String OUT_STATE = OUT + " IllegalStateException";
    private static final String ALL = OUT_STATE + " IllegalArgumentException";
    private static final Set<String> FACE = new TreeSet<>(Set.of(
            "int sheet(int,int)" + OUT_STATE,
            "int wire(int,long,long,long,long)" + ALL,
            "boolean junction(int,long,long)" + ALL,
            "int label(int,long,long,int)" + ALL,
            "int pin(int,long,long,int)" + ALL,
            "boolean port(int,int,int)" + ALL,
            "boolean bus(int,int,int,int)" + ALL,
            "int nets()",
            "int netOf(int,int)" + OUT,
            "boolean rank(int,int) IllegalArgumentException",
            "int name(int)" + OUT,
            "int drop(int)" + OUT,
            "boolean open(int)" + OUT,
            "int told(int)",
            "boolean same()",
            "int changed(int)"));

    public static void main(String[] args) {
        Check check = new Check();
        check.about("face");
        Set<String> shown = new TreeSet<>();
        Set<String> names = new TreeSet<>();
        for (Method m : NetJoins.class.getDeclaredMethods()) {
            if (!Modifier.isPrivate(m.getModifiers())) {
                shown.add(written(m));
                names.add(m.getName());
                check.due(Modifier.PUBLIC, m.getModifiers(), "modifiers of " + m);
            }
        }
        check.yes(shown.equals(FACE), "the methods " + shown);
        for (Field f : NetJoins.class.getDeclaredFields()) {
            boolean isPrivate = Modifier.isPrivate(f.getModifiers());
            check.yes(isPrivate != f.getName().equals("NONE"), "visibility of " + f);
            check.yes(!Modifier.isStatic(f.getModifiers()) || Modifier.isFinal(f.getModifiers()), "final " + f);
        }
        Constructor<?>[] made = NetJoins.class.getDeclaredConstructors();
        check.yes(made.length == 1 && made[0].getParameterCount() == 0, "one constructor");
        check.yes(Modifier.isFinal(NetJoins.class.getModifiers()), "a final class");
        for (Class<?> inside : NetJoins.class.getDeclaredClasses()) {
            check.yes(Modifier.isStatic(inside.getModifiers()), "static " + inside);
            for (Method m : inside.getDeclaredMethods()) {
                check.no(names.contains(m.getName()), "a name of the face for " + m);
            }
        }
        for (Method m : NetJoins.class.getDeclaredMethods()) {
            check.no(Modifier.isPrivate(m.getModifiers()) && names.contains(m.getName()), "private " + m);
        }
        check.end();
    }

    private static String written(Method m) {
        String parameters = Arrays.stream(m.getParameterTypes()).map(Class::getName).collect(Collectors.joining(","));
        String thrown = Arrays.stream(m.getExceptionTypes()).map(t -> " " + t.getSimpleName()).collect(Collectors.joining());
        return m.getReturnType().getName() + " " + m.getName() + "(" + parameters + ")" + thrown;
    }
}
