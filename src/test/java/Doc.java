import java.io.IOException;
import java.nio.file.Files;
import java.nio.file.Path;
import java.util.ArrayList;
import java.util.HashMap;
import java.util.List;
import java.util.Map;

/** The document: tests tell which words of it they hold to, and the words must stand there. */
final class Doc {
    private static final Path PATH = Path.of("../shared/DOC.md");
    private static final String WHOLE = read();
    private static final Map<String, List<String>> QUOTES = new HashMap<>();
    static final String TERMS = "## Terms";

    private Doc() {
    }

    static String promise(int number) {
        return "## Promise " + number + ":";
    }

    /** What follows is due by these words of a promise. */
    static void says(int promise, String words) {
        quote(promise(promise), words);
    }

    /** What follows is due by these words of the Terms, or of the sections 1 to 5 behind them. */
    static void terms(String words) {
        quote(TERMS, words);
    }

    private static void quote(String heading, String words) {
        Due.by(words);
        Due.isTrue("these words stand in " + heading, !isThere() || section(heading).contains(words));
        QUOTES.computeIfAbsent(heading, h -> new ArrayList<>()).add(words);
    }

    static boolean isThere() {
        return !WHOLE.isEmpty();
    }

    /** A section of the document in one line, without what is no sentence: headings, the face, marks. */
    static String section(String heading) {
        int at = WHOLE.indexOf(heading);
        if (at < 0) {
            return "";
        }
        int end = WHOLE.indexOf("\n## ", at + 1);
        String text = WHOLE.substring(WHOLE.indexOf('\n', at), end < 0 ? WHOLE.length() : end);
        text = text.replace("```text", " ").replace("```", " ").replaceAll("==== \\d (TEXT\\.|LINES\\.)?", " ");
        text = text.replaceAll("Ahead of the calls [^\\n]* the interface says: ---- [a-z, ]*", " ");
        return text.replaceAll("(?m)^`[^`]*`:", " ").replaceAll("\\s+", " ").trim();
    }

    /** What no test has quoted of a section; empty, if no word is left. */
    static String unquoted(String heading) {
        String text = section(heading);
        for (String words : QUOTES.getOrDefault(heading, List.of())) {
            text = mark(text, section(heading), words);
        }
        String left = text.replace("#", "");
        return left.matches("(?s).*[A-Za-z0-9].*") ? left.trim() : "";
    }

    /** The marked text has a # in place of each character that was quoted. */
    private static String mark(String marked, String text, String words) {
        StringBuilder made = new StringBuilder(marked);
        for (int at = text.indexOf(words); at >= 0; at = text.indexOf(words, at + 1)) {
            for (int i = at; i < at + words.length(); i++) {
                made.setCharAt(i, '#');
            }
        }
        return made.toString();
    }

    private static String read() {
        try {
            return Files.isReadable(PATH) ? Files.readString(PATH) : "";
        } catch (IOException e) {
            return "";
        }
    }
}
