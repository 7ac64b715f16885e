import java.io.IOException;
import java.nio.file.Files;
import java.nio.file.Path;
import java.util.List;
import java.util.regex.Pattern;

/** What a look at the source's lines can tell of LANGUAGE.md; runs in the project's folder. */
public final class LanguageTest {
    private static final String[] NEVER = {
        "\\bthrow\\b", "\\bthrows\\b", "\\btry\\b", "\\bcatch\\b", "\\bsynchronized\\b", "\\bassert\\b",
        "\\bpackage\\b", "\\bimport java\\.(?!util\\.(ArrayList|List|Arrays|Iterator);)", "->", "::",
        "\\bstatic \\{", "Exact\\(", "\\bhashCode\\b", "\\btoString\\(\\) \\{", "\\bjava\\.lang\\b",
        "\\bwhile \\(true\\)", "for \\(;;\\)", "\\bSystem\\.(?!arraycopy\\b)", "\\bRandom\\b", "\\bThread\\b",
        "\\bStream\\b", "\\bHashMap\\b", "[^\\x00-\\x7f]"
    };

    private static String withoutComment(String line) {
        String bare = line.strip();
        if (bare.startsWith("/**") || bare.startsWith("//") || bare.startsWith("*")) {
            return "";
        }
        int at = line.indexOf("//");
        return at < 0 ? line : line.substring(0, at);
    }

    public static void main(String[] args) throws IOException {
        Due due = new Due();
        List<String> lines = Files.readAllLines(Path.of("src/main/java/PoorTurns.java"));
        int methodStart = -1;
        for (int i = 0; i < lines.size(); i++) {
            String line = withoutComment(lines.get(i));
            for (String never : NEVER) {
                due.holds("line " + (i + 1) + " is without " + never, !Pattern.compile(never).matcher(line).find());
            }
            if (line.matches("\\s+(public|private) .*\\(.*\\) \\{")) {
                methodStart = i;
            }
            if (line.matches("(    |        )\\}") && methodStart >= 0) {
                due.holds("the method at line " + (methodStart + 1) + " is short", i - methodStart < 60);
                methodStart = -1;
            }
        }
        due.end();
    }
}
