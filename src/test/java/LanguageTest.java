import java.io.IOException;
import java.lang.reflect.Constructor;
import java.lang.reflect.Field;
import java.lang.reflect.Method;
import java.lang.reflect.Modifier;
import java.nio.file.Files;
import java.nio.file.Path;
import java.util.Arrays;
import java.util.List;
import java.util.Set;
import java.util.TreeSet;
import java.util.regex.Matcher;
import java.util.regex.Pattern;

/** The public face as the document writes it, and those rules of LANGUAGE.md that can be seen from outside. */
public final class LanguageTest {
    private static final Set<String> FACE = new TreeSet<>(List.of(
        "int rules 4", "int ofRule 2", "int number 2", "int insert 6", "int remove 1", "int swap 1", "int winner 1",
        "int ask 2", "int day 5", "int ofRun 2", "int whole 1", "int reading 2", "int back 1", "int kinds 1",
        "int numbers 1", "long odds 2", "int sheet 3", "int lose 1", "int put 3", "long cell 3", "int copy 5",
        "int tell 1", "int cite 1", "int as 2", "int trace 0", "int fault 0", "int many 1"));
    private static final Set<String> CONSTANTS = new TreeSet<>(List.of(
        "UNKNOWN -1", "OUTSIDE -2", "STATE -3", "FULL -4", "NONE -9", "LOST -9223372036854775808"));

    private static final Set<Class<?>> CONSTANT_TYPES = Set.of(
        int.class, long.class, boolean.class, char.class, String.class,
        int[].class, long[].class, char[].class, byte[].class);
    private static final int SEEN_OUTSIDE = Modifier.PUBLIC | Modifier.PROTECTED;
    // Of what LANGUAGE.md lets the class use, no more than it does use.
    private static final Set<String> LIBRARY = Set.of(
        "System.arraycopy", "Math.max", "Math.min", "Long.MIN_VALUE");

    private LanguageTest() {
    }

    public static void main(String[] args) throws IOException, IllegalAccessException {
        methods();
        constants();
        constructors();
        insideClasses();
        String source = Files.readString(Path.of("src/main/java/RangeRules.java"));
        words(source);
        library(source);
        nothingIsMadeLater(source);
        methodLengths(source);
        Due.end("LanguageTest");
    }

    private static void methods() {
        Set<String> face = new TreeSet<>();
        for (Method method : RangeRules.class.getDeclaredMethods()) {
            int modifiers = method.getModifiers();
            if (Modifier.isPublic(modifiers)) {
                face.add(method.getReturnType() + " " + method.getName() + " " + method.getParameterCount());
                Due.holds(method + " takes ints alone",
                    Arrays.stream(method.getParameterTypes()).allMatch(type -> type == int.class));
            } else {
                Due.holds(method + " is private", Modifier.isPrivate(modifiers) || method.isSynthetic());
                Due.holds(method + " bears no name of the face", !faceNames().contains(method.getName()));
            }
            Due.holds(method + " has at most seven parameters", method.getParameterCount() <= 7);
        }
        Due.holds("the face is the document's: " + face, face.equals(FACE));
    }

    private static void constants() throws IllegalAccessException {
        Set<String> constants = new TreeSet<>();
        for (Field field : RangeRules.class.getDeclaredFields()) {
            int modifiers = field.getModifiers();
            Due.holds(field + " is public or private", Modifier.isPublic(modifiers) || Modifier.isPrivate(modifiers));
            if (Modifier.isStatic(modifiers)) Due.holds(field + " is final", Modifier.isFinal(modifiers));
            if (Modifier.isPublic(modifiers)) constants.add(field.getName() + " " + field.get(null));
        }
        Due.holds("the constants are the document's: " + constants, constants.equals(CONSTANTS));
        Due.holds("the class is public and final",
            Modifier.isPublic(RangeRules.class.getModifiers()) && Modifier.isFinal(RangeRules.class.getModifiers()));
    }

    private static void constructors() {
        Constructor<?>[] constructors = RangeRules.class.getDeclaredConstructors();
        Due.is("constructors", constructors.length, 1);
        Due.is("their parameters", constructors[0].getParameterCount(), 0);
        Due.holds("it is public", Modifier.isPublic(constructors[0].getModifiers()));
    }

    private static void insideClasses() {
        fields(RangeRules.class);
        Class<?>[] inside = RangeRules.class.getDeclaredClasses();
        Due.holds("some twelve classes at most", inside.length < 12);
        for (Class<?> one : inside) {
            Due.holds(one + " is static", Modifier.isStatic(one.getModifiers()));
            Due.holds(one + " is private or package-visible", (one.getModifiers() & SEEN_OUTSIDE) == 0);
            for (Method method : one.getDeclaredMethods()) {
                Due.holds(method + " bears no name of the face", !faceNames().contains(method.getName()));
            }
            fields(one);
        }
    }

    private static void fields(Class<?> one) {
        int own = 0;
        for (Field field : one.getDeclaredFields()) {
            int modifiers = field.getModifiers();
            if (!Modifier.isStatic(modifiers)) {
                own++;
                continue;
            }
            Due.holds(field + " is final", Modifier.isFinal(modifiers));
            Due.holds(field + " is a constant of a type that may be", CONSTANT_TYPES.contains(field.getType()));
        }
        Due.holds(one + " has some twenty fields at most", own <= 20);
    }

    private static Set<String> faceNames() {
        Set<String> names = new TreeSet<>();
        for (String method : FACE) names.add(method.split(" ")[1]);
        return names;
    }

    private static String withoutComments(String source) {
        return source.replaceAll("(?s)/\\*.*?\\*/", "").replaceAll("//[^\n]*", "");
    }

    private static void library(String source) {
        Set<String> own = new TreeSet<>();
        for (Class<?> one : RangeRules.class.getDeclaredClasses()) own.add(one.getSimpleName());
        Matcher uses = Pattern.compile("\\b([A-Z][a-z]\\w*)\\.\\w+").matcher(withoutComments(source));
        while (uses.find()) {
            Due.holds(uses.group() + " may be used", own.contains(uses.group(1)) || LIBRARY.contains(uses.group()));
        }
    }

    /** All calls of a run live in one room: what is made is made by constructors, and by fields as they begin. */
    private static void nothingIsMadeLater(String source) {
        Pattern head = Pattern.compile("^( +)(?!if|for|while|switch|else)[A-Za-z].*\\) \\{$");
        Pattern constructor = Pattern.compile("^ +(public )?[A-Z][A-Za-z]*\\(.*\\) \\{$");
        String endOfMethod = "";
        for (String line : withoutComments(source).split("\n")) {
            Matcher method = head.matcher(line);
            if (method.matches() && !constructor.matcher(line).matches()) endOfMethod = method.group(1) + "}";
            boolean makes = Pattern.compile("\\bnew\\b|\\.clone\\(").matcher(line).find();
            if (makes) Due.holds("made as the object is made: " + line.trim(), endOfMethod.isEmpty());
            if (line.equals(endOfMethod)) endOfMethod = "";
        }
    }

    private static void words(String source) {
        String code = withoutComments(source);
        for (String word : new String[] {
            "throw", "throws", "try", "catch", "synchronized", "assert", "import", "package", "protected", "native",
            "volatile", "Exact", "equals", "hashCode", "toString", "Object", "Random", "Thread", "static \\{", "->",
            "::", "while \\(true\\)", "for \\(;;\\)"}) {
            Due.holds("no " + word, !Pattern.compile("(?<![A-Za-z])" + word + "(?![A-Za-z])").matcher(code).find());
        }
        Due.holds("signs of 1 to 127 alone", source.chars().allMatch(sign -> sign >= 1 && sign <= 127));
    }

    private static void methodLengths(String source) {
        String[] lines = source.split("\n");
        Pattern head = Pattern.compile("^( +)[A-Za-z].*\\) \\{$");
        for (int k = 0; k < lines.length; k++) {
            Matcher matcher = head.matcher(lines[k]);
            if (!matcher.matches()) continue;
            int end = k;
            while (end < lines.length && !lines[end].equals(matcher.group(1) + "}")) end++;
            Due.holds("short: " + lines[k].trim(), end - k < 60);
        }
    }
}
