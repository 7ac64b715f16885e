import java.lang.reflect.Constructor;
import java.lang.reflect.Field;
import java.lang.reflect.Method;
import java.lang.reflect.Modifier;
import java.util.ArrayList;
import java.util.Arrays;
import java.util.List;
import java.util.Set;
import java.util.TreeSet;

/** The public face is the document's, and no more can be seen from outside (LANGUAGE.md, 1, 5 and 11). */
public final class FaceTest {
    private static final String[] METHODS = {
        "int house(int,int,int)", "int gave(int,int,int)", "int map(int,int)", "int kin(int,int,boolean)",
        "int say(int)", "int wipe()", "int fault()", "int judge(int)", "int behind(int,int)", "int parish(int)",
        "int first(int)", "int done()", "int due(int)", "int even(int)", "int orders(int)", "int ring(int,int,int)",
        "int count(int,int)", "int forget()", "int ever(int)", "int ask(int)", "int crumbs(int,int,int)",
        "long lots(int,int,int,int)", "int century(int,int,int)", "int image(int)", "int restore(int)",
        "int told(int)"
    };
    private static final Due due = new Due();

    private static String signature(Method method) {
        List<String> types = new ArrayList<>();
        for (Class<?> type : method.getParameterTypes()) {
            types.add(type.getName());
        }
        return method.getReturnType().getName() + " " + method.getName() + "(" + String.join(",", types) + ")";
    }

    private static void methods(Class<?> face) {
        Set<String> seen = new TreeSet<>();
        Set<String> names = new TreeSet<>();
        for (Method method : face.getDeclaredMethods()) {
            if (!Modifier.isPrivate(method.getModifiers())) {
                due.holds(method + " is public", method.getModifiers() == Modifier.PUBLIC);
                seen.add(signature(method));
                names.add(method.getName());
            }
        }
        due.holds("the methods are the document's", seen.equals(new TreeSet<>(Arrays.asList(METHODS))));
        for (Method method : face.getDeclaredMethods()) {
            if (Modifier.isPrivate(method.getModifiers())) {
                due.holds(method + " has a name of its own", !names.contains(method.getName()));
            }
        }
    }

    private static void constants(Class<?> face) {
        Set<String> seen = new TreeSet<>();
        for (Field field : face.getDeclaredFields()) {
            int modifiers = field.getModifiers();
            if (!Modifier.isPrivate(modifiers)) {
                due.holds(field + " is a public constant",
                    modifiers == (Modifier.PUBLIC | Modifier.STATIC | Modifier.FINAL));
                seen.add(field.getType().getName() + " " + field.getName());
            }
        }
        due.holds("the constants are the document's", seen.equals(new TreeSet<>(Arrays.asList("int UNKNOWN",
            "int OUTSIDE", "int STATE", "int FULL", "int NO", "int NONE", "long GONE"))));
        due.is("UNKNOWN", PoorTurns.UNKNOWN, -1);
        due.is("OUTSIDE", PoorTurns.OUTSIDE, -2);
        due.is("STATE", PoorTurns.STATE, -3);
        due.is("FULL", PoorTurns.FULL, -4);
        due.is("NO", PoorTurns.NO, -5);
        due.is("NONE", PoorTurns.NONE, -6);
        due.is("GONE", PoorTurns.GONE, -1000000000000000000L);
    }

    private static void inside(Class<?> one) {
        int fields = 0;
        for (Field field : one.getDeclaredFields()) {
            boolean isStatic = Modifier.isStatic(field.getModifiers());
            due.holds(field + " is final, if static", !isStatic || Modifier.isFinal(field.getModifiers()));
            fields += isStatic ? 0 : 1;
        }
        due.holds(one + " has some twenty fields at most", fields <= 20);
        for (Method method : one.getDeclaredMethods()) {
            due.holds(method + " takes seven at most", method.getParameterCount() <= 7);
        }
    }

    public static void main(String[] args) {
        Class<?> face = PoorTurns.class;
        due.holds("public and final", face.getModifiers() == (Modifier.PUBLIC | Modifier.FINAL));
        Constructor<?>[] constructors = face.getDeclaredConstructors();
        due.is("constructors", constructors.length, 1);
        due.holds("public, without parameters", constructors[0].getModifiers() == Modifier.PUBLIC
            && constructors[0].getParameterCount() == 0);
        methods(face);
        constants(face);
        inside(face);
        due.holds("some twelve classes at most", face.getDeclaredClasses().length < 12);
        for (Class<?> one : face.getDeclaredClasses()) {
            due.holds(one + " is static", Modifier.isStatic(one.getModifiers()));
            inside(one);
        }
        due.end();
    }
}
