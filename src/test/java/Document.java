import java.io.IOException;
import java.nio.file.Files;
import java.nio.file.Path;
import java.util.LinkedHashMap;
import java.util.Map;
import java.util.regex.Matcher;
import java.util.regex.Pattern;

/**
 * The document's words by section, so that a test names a sentence as it stands there, and so that it can be
 * told at the end which words no test has named.
 */
final class Document {
    private static final Path PLACE = Path.of("../shared/DOC.md");
    private static final Map<String, String> WORDS = new LinkedHashMap<>();
    private static final Map<String, boolean[]> NAMED = new LinkedHashMap<>();
    private static String latest = null;
    private static int comparedAhead = 0;

    private Document() {
    }

    /** Without the document the tests still run; only the sentences are not looked up then. */
    static void read() throws IOException {
        if (!Files.isRegularFile(PLACE)) {
            System.out.println(PLACE + " is not there: the sentences are not looked up in it");
            return;
        }
        for (String section : Files.readString(PLACE).split("(?m)^## ")) {
            int end = section.indexOf('\n');
            String head = section.substring(0, end).trim();
            String words = section.substring(end).replaceAll("(?m)^```[a-z]*$", " ").replaceAll("\\s+", " ").trim();
            if (head.startsWith("Promise ")) keepPromise(head, words);
            else if (head.equals("Terms")) keepTerms(words);
            else keep(head, words);
        }
    }

    private static void keepPromise(String head, String words) {
        String withoutCall = words.replaceFirst("^`.*?`: ", "");
        keep(head.substring(0, head.indexOf(':')), withoutCall);
    }

    private static void keepTerms(String words) {
        String terms = words.substring(0, words.indexOf("Ahead of the calls"));
        Matcher parts = Pattern.compile("(?:^|==== ([1-5]) )(.*?)(?= ==== |$)").matcher(terms);
        while (parts.find()) keep(parts.group(1) == null ? "Terms" : "Part " + parts.group(1), parts.group(2));
    }

    private static void keep(String section, String words) {
        WORDS.put(section, words);
        NAMED.put(section, new boolean[words.length()]);
    }

    static void promise(int number, String sentence) {
        sentence("Promise " + number, sentence);
    }

    static void part(int number, String sentence) {
        sentence("Part " + number, sentence);
    }

    static void terms(String sentence) {
        sentence("Terms", sentence);
    }

    /** What is compared from here on is about this sentence. */
    static void sentence(String section, String sentence) {
        endSentence();
        Due.about(section + ", '" + sentence + "': ");
        Due.holds("it stands there", WORDS.isEmpty() || mark(section, sentence));
        latest = section + ", '" + sentence + "'";
        comparedAhead = Due.compared();
    }

    private static boolean mark(String section, String sentence) {
        String words = WORDS.getOrDefault(section, "");
        int at = words.indexOf(sentence);
        boolean found = at >= 0;
        while (at >= 0) {
            for (int k = 0; k < sentence.length(); k++) NAMED.get(section)[at + k] = true;
            at = words.indexOf(sentence, at + 1);
        }
        return found;
    }

    private static void endSentence() {
        if (latest != null) Due.holds(latest + " is tested", Due.compared() > comparedAhead);
        latest = null;
    }

    /** Every word of the terms and of the promises has been named. */
    static void end() {
        endSentence();
        Due.about("");
        if (WORDS.isEmpty()) return;
        int promises = 0;
        for (String section : WORDS.keySet()) {
            if (section.startsWith("Promise ")) promises++;
            if (!section.matches("Terms|(Part|Promise) \\d+")) continue;
            String left = unnamed(section);
            Due.holds("all of " + section + " is named; not: " + left, left.isBlank());
        }
        Due.is("promises of the document", promises, 28);
    }

    private static String unnamed(String section) {
        String words = WORDS.get(section);
        StringBuilder left = new StringBuilder();
        for (int k = 0; k < words.length(); k++) {
            boolean open = !NAMED.get(section)[k] && Character.isLetterOrDigit(words.charAt(k));
            left.append(open ? words.charAt(k) : ' ');
        }
        return left.toString().replaceAll(" +", " ").trim();
    }
}
