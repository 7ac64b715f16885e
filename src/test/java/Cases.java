import java.lang.reflect.InvocationTargetException;
import java.lang.reflect.Method;
import java.util.Arrays;
import java.util.Comparator;

/** Runs the cases of a class each by itself: all its static methods that take a Due alone. */
final class Cases {
    private static boolean isCase(Method method) {
        return Arrays.equals(method.getParameterTypes(), new Class<?>[] {Due.class});
    }

    /** Whether the case holds; one that throws, or that asks nothing, does not. */
    private static boolean holds(Method method) {
        Due due = new Due(method.getName() + ": ");
        try {
            method.invoke(null, due);
        } catch (InvocationTargetException thrown) {
            System.out.println(method.getName() + " threw " + thrown.getCause());
            return false;
        } catch (IllegalAccessException hidden) {
            System.out.println(method.getName() + " can not be run: " + hidden);
            return false;
        }
        if (due.asked() == 0) {
            System.out.println(method.getName() + " asks nothing");
        }
        return due.asked() > 0 && due.wrong() == 0;
    }

    static void run(Class<?> tests) {
        Method[] methods = tests.getDeclaredMethods();
        Arrays.sort(methods, Comparator.comparing(Method::getName));
        int ran = 0;
        int failed = 0;
        for (Method method : methods) {
            if (isCase(method)) {
                ran++;
                failed += holds(method) ? 0 : 1;
            }
        }
        System.out.println(ran + " cases, " + failed + " failed");
        if (ran == 0 || failed != 0) {
            System.exit(1);
        }
    }

    private Cases() {
    }
}
