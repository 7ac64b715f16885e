import java.lang.reflect.Method;
import java.lang.reflect.Modifier;
import java.nio.file.Files;
import java.nio.file.Path;
import java.util.Set;
import java.util.TreeSet;
import java.util.regex.Matcher;
import java.util.regex.Pattern;

/** Asks the calls that README.md shows, in its order; each public call must be shown. Runs in the project's folder. */
public final class ReadmeTest {
    private static final Pattern CALL = Pattern.compile("x\\.(\\w+)\\((.*)\\); *// (-?\\d+).*");
    private static final Pattern TEXT = Pattern.compile("for \\(char sign : \"(.*)\"\\.toCharArray\\(\\)\\) x\\.say.*");

    private static Object argument(String word) {
        if (word.startsWith("'")) {
            return (int) word.charAt(1);
        }
        if (word.equals("true") || word.equals("false")) {
            return Boolean.valueOf(word);
        }
        return Integer.valueOf(word);
    }

    private static long answer(PoorTurns x, String name, String words) throws ReflectiveOperationException {
        String[] each = words.isEmpty() ? new String[0] : words.split(", ");
        Object[] arguments = new Object[each.length];
        for (int i = 0; i < each.length; i++) {
            arguments[i] = argument(each[i]);
        }
        for (Method method : PoorTurns.class.getDeclaredMethods()) {
            if (Modifier.isPublic(method.getModifiers()) && method.getName().equals(name)) {
                return ((Number) method.invoke(x, arguments)).longValue();
            }
        }
        throw new NoSuchMethodException(name);
    }

    private static Set<String> publicCalls() {
        Set<String> names = new TreeSet<>();
        for (Method method : PoorTurns.class.getDeclaredMethods()) {
            if (Modifier.isPublic(method.getModifiers())) {
                names.add(method.getName());
            }
        }
        return names;
    }

    public static void main(String[] args) throws Exception {
        Due due = new Due("README: ");
        PoorTurns x = new PoorTurns();
        Set<String> notShown = publicCalls();
        for (String line : Files.readAllLines(Path.of("README.md"))) {
            Matcher text = TEXT.matcher(line);
            if (text.matches()) {
                Make.write(x, text.group(1));
            }
            Matcher call = CALL.matcher(line);
            due.holds("'" + line + "' can be read as a call", !line.startsWith("x.") || call.matches());
            if (call.matches()) {
                due.is(line, answer(x, call.group(1), call.group(2)), Long.parseLong(call.group(3)));
                notShown.remove(call.group(1));
            }
        }
        due.holds("each call is shown, but for " + notShown, notShown.isEmpty());
        due.end();
    }
}
