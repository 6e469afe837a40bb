import java.io.IOException;
import java.lang.reflect.Field;
import java.lang.reflect.Method;
import java.lang.reflect.Modifier;
import java.nio.file.DirectoryStream;
import java.nio.file.Files;
import java.nio.file.Path;
import java.util.List;
import java.util.regex.Matcher;
import java.util.regex.Pattern;

/** What README.md says of the class and of its tests; runs from the project's folder. */
public final class ReadmeTest {
    private static final Path README = Path.of("README.md");
    private static final Path TESTS = Path.of("src", "test", "java");
    private static final Pattern CALL = Pattern.compile("depot\\.(\\w+)\\(([^)]*)\\);(?:\\s*// (?:= (\\w+))?.*)?");

    public static void main(String[] args) throws IOException, ReflectiveOperationException {
        Check check = new Check();
        List<String> lines = Files.readAllLines(README);
        examples(check, lines);
        callsAndConstants(check, lines);
        tests(check, lines);
        check.end();
    }

    private static void examples(Check check, List<String> lines) throws ReflectiveOperationException {
        VersionDepot depot = null;
        int examples = 0;
        boolean inside = false;
        for (String line : lines) {
            if (line.startsWith("```")) {
                inside = line.equals("```java");
            } else if (inside && line.equals("VersionDepot depot = new VersionDepot();")) {
                depot = new VersionDepot();
                examples++;
            } else if (inside) {
                example(check, depot, line);
            }
        }
        check.due("examples in README.md", examples, 3);
    }

    private static void example(Check check, VersionDepot depot, String line) throws ReflectiveOperationException {
        Matcher call = CALL.matcher(line);
        boolean known = call.matches();
        check.due("README.md has a call in '" + line + "'", known, true);
        if (known) {
            check.due("README.md: " + line, answer(depot, call.group(1), call.group(2)), due(call.group(3)));
        }
    }

    private static int answer(VersionDepot depot, String name, String list) throws ReflectiveOperationException {
        String[] words = list.isEmpty() ? new String[0] : list.split(", ");
        Class<?>[] types = new Class<?>[words.length];
        Object[] numbers = new Object[words.length];
        for (int place = 0; place < words.length; place++) {
            types[place] = int.class;
            numbers[place] = Integer.valueOf(words[place]);
        }
        Object answer = VersionDepot.class.getMethod(name, types).invoke(depot, numbers);
        return answer instanceof Boolean truth ? (truth ? 1 : 0) : (Integer) answer;
    }

    private static int due(String word) throws ReflectiveOperationException {
        if (word == null || word.equals("false")) {
            return 0;
        }
        if (word.equals("true")) {
            return 1;
        }
        boolean constant = Character.isLetter(word.charAt(0));
        return constant ? VersionDepot.class.getField(word).getInt(null) : Integer.parseInt(word);
    }

    private static void callsAndConstants(Check check, List<String> lines) {
        for (Method method : VersionDepot.class.getDeclaredMethods()) {
            if (Modifier.isPublic(method.getModifiers())) {
                check.due("README.md has a row for " + method, hasRow(lines, method.getName() + "("), true);
            }
        }
        for (Field constant : VersionDepot.class.getFields()) {
            check.due("README.md has a row for " + constant, hasRow(lines, constant.getName() + "`"), true);
        }
    }

    private static void tests(Check check, List<String> lines) throws IOException {
        try (DirectoryStream<Path> files = Files.newDirectoryStream(TESTS, "*Test.java")) {
            for (Path file : files) {
                String name = file.getFileName().toString().replace(".java", "");
                check.due("README.md has a row for " + name, hasRow(lines, name + "`"), true);
            }
        }
    }

    private static boolean hasRow(List<String> lines, String start) {
        return lines.stream().anyMatch(line -> line.startsWith("| `" + start));
    }
}
