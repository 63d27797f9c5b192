import java.io.IOException;
import java.lang.reflect.Method;
import java.lang.reflect.Modifier;
import java.nio.file.Files;
import java.nio.file.Path;
import java.util.List;
import java.util.regex.Matcher;
import java.util.regex.Pattern;
import java.util.stream.Collectors;
import java.util.stream.Stream;

/** README.md tells answers that are given, and names every call and every test. */
public final class ReadmeTest {
    private static final Due DUE = new Due();
    private static final Path README = Path.of("README.md");
    private static final Path TESTS = Path.of("src/test/java");
    private static final String NEW_OBJECT = "PathSounder x = new PathSounder();";
    private static final Pattern TOLD = Pattern.compile("x\\.(\\w+\\([^)]*\\)); +// (-?\\d+)\\b.*");

    public static void main(String[] args) throws IOException {
        String text = Files.readString(README);
        answersAreAsTold(text);
        everyCallIsNamed(text);
        everyTestIsNamed(text);
        DUE.end();
    }

    private static void answersAreAsTold(String text) {
        PathSounder x = new PathSounder();
        int told = 0;
        for (String line : text.split("\\n")) {
            if (line.startsWith(NEW_OBJECT)) {
                x = new PathSounder();
            } else if (line.startsWith("x.")) {
                Matcher m = TOLD.matcher(line);
                DUE.due("README tells the answer: " + line, m.matches() ? 1 : 0, 1);
                if (m.matches()) {
                    DUE.due("README: " + m.group(1), Call.of(m.group(1)).on(x), Integer.parseInt(m.group(2)));
                    told++;
                }
            }
        }
        DUE.due("README has examples", told > 0 ? 1 : 0, 1);
    }

    private static void everyCallIsNamed(String text) {
        for (Method m : PathSounder.class.getDeclaredMethods()) {
            if (Modifier.isPublic(m.getModifiers())) {
                Pattern row = Pattern.compile("\\| `" + m.getName() + "\\(\\w+(, \\w+){" + (m.getParameterCount() - 1)
                    + "}\\)` \\|");
                DUE.due("README names " + m, row.matcher(text).find() ? 1 : 0, 1);
            }
        }
    }

    private static void everyTestIsNamed(String text) throws IOException {
        for (String name : testNames()) {
            DUE.due("README names " + name, text.contains("`" + name + "`") ? 1 : 0, 1);
        }
        Matcher named = Pattern.compile("`(\\w+Test)`").matcher(text);
        while (named.find()) {
            DUE.due(named.group(1) + " is there", testNames().contains(named.group(1)) ? 1 : 0, 1);
        }
    }

    private static List<String> testNames() throws IOException {
        try (Stream<Path> files = Files.list(TESTS)) {
            return files.map(f -> f.getFileName().toString()).filter(f -> f.endsWith("Test.java"))
                .map(f -> f.substring(0, f.length() - ".java".length())).collect(Collectors.toList());
        }
    }
}
