import java.io.IOException;
import java.lang.reflect.Method;
import java.lang.reflect.Modifier;
import java.nio.file.Files;
import java.nio.file.Path;
import java.util.Arrays;
import java.util.Set;
import java.util.TreeSet;
import java.util.regex.Matcher;
import java.util.regex.Pattern;

/** The rows of README.md, made one behind another on one object: each answers what is told behind it. */
public final class ReadmeTest {
    private static final Pattern TEXT = Pattern.compile("String text = \"([^\"]*)\";.*");
    private static final Pattern LOOP = Pattern.compile("for \\(.*\\) x\\.put\\(0, i, text\\.charAt\\(i\\)\\);");
    private static final Pattern CALL = Pattern.compile("x\\.([a-zA-Z]+)\\((.*?)\\); +// (-?\\d+|[A-Z]+)(?![\\w.]).*");

    private final RangeRules x = new RangeRules();
    private final Set<String> made = new TreeSet<>();
    private String text = "";

    private ReadmeTest() {
    }

    public static void main(String[] args) throws IOException, ReflectiveOperationException {
        String readme = Files.readString(Path.of("README.md"));
        ReadmeTest test = new ReadmeTest();
        Matcher blocks = Pattern.compile("(?s)```java\n(.*?)```").matcher(readme);
        while (blocks.find()) {
            for (String row : blocks.group(1).split("\n")) test.make(row);
        }
        test.allCallsAreMade();
        allTestsAreNamed(readme);
        Due.end("ReadmeTest");
    }

    private void make(String row) throws ReflectiveOperationException {
        Matcher told = TEXT.matcher(row);
        Matcher call = CALL.matcher(row);
        if (told.matches()) {
            text = told.group(1);
        } else if (LOOP.matcher(row).matches()) {
            for (int i = 0; i < text.length(); i++) Due.is(row, x.put(0, i, text.charAt(i)), 1);
        } else if (call.matches()) {
            Due.is(row, answer(call.group(1), call.group(2)), due(call.group(3)));
        } else {
            Due.holds("a row that can be made: " + row, row.equals("RangeRules x = new RangeRules();"));
        }
    }

    private long answer(String name, String told) throws ReflectiveOperationException {
        made.add(name);
        String numbers = told.replace("text.length()", Integer.toString(text.length()));
        Object[] args = numbers.isEmpty() ? new Object[0]
            : Arrays.stream(numbers.split(", ")).map(Integer::valueOf).toArray();
        Class<?>[] types = new Class<?>[args.length];
        Arrays.fill(types, int.class);
        return ((Number) RangeRules.class.getMethod(name, types).invoke(x, args)).longValue();
    }

    private static long due(String told) throws ReflectiveOperationException {
        if (!Character.isLetter(told.charAt(0))) return Long.parseLong(told);
        return ((Number) RangeRules.class.getField(told).get(null)).longValue();
    }

    private void allCallsAreMade() {
        for (Method method : RangeRules.class.getDeclaredMethods()) {
            if (!Modifier.isPublic(method.getModifiers())) continue;
            Due.holds("README.md shows " + method.getName(), made.contains(method.getName()));
        }
    }

    private static void allTestsAreNamed(String readme) throws IOException {
        try (var files = Files.newDirectoryStream(Path.of("src/test/java"), "*Test.java")) {
            for (Path file : files) {
                String name = file.getFileName().toString().replace(".java", "");
                Due.holds("README.md names " + name, readme.contains("| " + name + " |"));
            }
        }
    }
}
