import java.io.IOException;
import java.lang.reflect.Field;
import java.lang.reflect.Method;
import java.lang.reflect.Modifier;
import java.nio.file.Files;
import java.nio.file.Path;
import java.util.ArrayList;
import java.util.List;
import java.util.Set;
import java.util.regex.Matcher;
import java.util.regex.Pattern;

/** What of LANGUAGE.md can be seen in the text of the class and in the classes made of it. */
public final class LanguageTest {
    private static final Due DUE = new Due();
    private static final Path SOURCE = Path.of("src/main/java/PathSounder.java");
    private static final Set<String> LIBRARY = Set.of("Arrays.fill", "System.arraycopy", "Math.min");
    private static final int MOST_CLASSES = 12, MOST_FIELDS = 20, MOST_PARAMETERS = 7, MOST_LINES = 60;

    public static void main(String[] args) throws IOException {
        String text = Files.readString(SOURCE);
        // A word can be looked for only where no comment says it.
        String code = text.replaceAll("(?s)/\\*.*?\\*/", " ").replaceAll("//[^\\n]*", " ");
        dueTrue("signs 1 to 127 alone", text.chars().allMatch(c -> c >= 1 && c <= 127));
        noWordThatIsLeftOut(code);
        libraryIsAsListed(code);
        noCallMakesAnObject(code);
        methodsAreShort(text);
        classesAreSmall();
        DUE.end();
    }

    private static void dueTrue(String what, boolean holds) {
        DUE.due(what, holds ? 1 : 0, 1);
    }

    private static void noWordThatIsLeftOut(String code) {
        String[] leftOut = {"\\bthrows?\\b", "\\btry\\b", "\\bcatch\\b", "\\bfinally\\b", "\\bsynchronized\\b",
            "\\bassert\\b", "\\bpackage\\b", "\\bprotected\\b", "Exact\\b", "\\bequals\\b", "\\bhashCode\\b",
            "\\btoString\\b", "\\bnative\\b", "\\bvolatile\\b", "\\bdouble\\b", "\\bfloat\\b", "\\bObject\\b",
            "static\\s*\\{", "->", "::", "\\.\\.\\.", "@"};
        for (String pattern : leftOut) {
            dueTrue("no " + pattern, !Pattern.compile(pattern).matcher(code).find());
        }
    }

    private static void libraryIsAsListed(String code) {
        String behindImports = code.replaceAll("import [^;]*;", "");
        Matcher used = Pattern.compile("\\b([A-Z]\\w*[a-z]\\w*\\.\\w+)").matcher(behindImports);
        while (used.find()) {
            dueTrue(used.group(1) + " is in the list", LIBRARY.contains(used.group(1)));
        }
        Matcher imports = Pattern.compile("(?m)^\\s*import\\s+([^;]*);").matcher(code);
        while (imports.find()) {
            dueTrue("import " + imports.group(1), imports.group(1).equals("java.util.Arrays"));
        }
        dueTrue("no name with its package", !behindImports.contains("java."));
    }

    /** All calls of a run live in one room, so what is made is made with the object: in final fields. */
    private static void noCallMakesAnObject(String code) {
        for (String line : code.split("\\n")) {
            if (line.matches(".*\\bnew\\b.*")) {
                dueTrue("made with the object: " + line.trim(),
                    line.matches(" +(private )?final [\\w\\[\\]]+ \\w+ = new [^;]*;"));
            }
            dueTrue("nothing copied anew: " + line.trim(), !line.matches(".*\\b(clone|copyOf|copyOfRange)\\(.*"));
        }
    }

    /** A method begins and ends in the same column. */
    private static void methodsAreShort(String text) {
        String[] lines = text.split("\\n");
        List<Integer> begun = new ArrayList<>();
        for (int i = 0; i < lines.length; i++) {
            if (lines[i].matches(" {4,8}[\\w ]+\\w+\\([\\w ,]*\\) \\{") && !lines[i].trim().startsWith("if")) {
                begun.add(i);
            }
        }
        int methods = 0;
        for (int from : begun) {
            String end = lines[from].replaceAll("\\S.*", "") + "}";
            int to = from;
            while (to < lines.length - 1 && !lines[to].equals(end)) {
                to++;
            }
            dueTrue("short: " + lines[from].trim(), to - from + 1 <= MOST_LINES);
            methods++;
        }
        dueTrue("methods were found", methods > PathSounder.class.getDeclaredMethods().length);
    }

    private static void classesAreSmall() {
        Class<?>[] inside = PathSounder.class.getDeclaredClasses();
        dueTrue("few classes", inside.length + 1 <= MOST_CLASSES);
        classIsSmall(PathSounder.class);
        for (Class<?> c : inside) {
            dueTrue(c + " is static and hidden", Modifier.isStatic(c.getModifiers())
                && !Modifier.isPublic(c.getModifiers()) && !Modifier.isProtected(c.getModifiers()));
            dueTrue(c + " has none inside", c.getDeclaredClasses().length == 0);
            classIsSmall(c);
        }
    }

    private static void classIsSmall(Class<?> c) {
        int fields = 0;
        for (Field f : c.getDeclaredFields()) {
            if (Modifier.isStatic(f.getModifiers())) {
                dueTrue(f + " is a constant", Modifier.isFinal(f.getModifiers())
                    && (f.getType() == int.class || f.getType() == int[].class));
            } else {
                fields++;
            }
        }
        dueTrue(c + " has few fields", fields <= MOST_FIELDS);
        for (Method m : c.getDeclaredMethods()) {
            dueTrue(m + " has few parameters", m.getParameterCount() <= MOST_PARAMETERS);
        }
    }
}
