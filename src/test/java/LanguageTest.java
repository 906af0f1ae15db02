import java.io.IOException;
import java.nio.file.Files;
import java.nio.file.Path;
import java.util.Set;
import java.util.regex.Matcher;
import java.util.regex.Pattern;

/** The rules of LANGUAGE.md that can be seen in the text of the class. */
final class LanguageTest {
    private static final String[] LEFT_OUT = {
        "\\bthrow\\b", "\\bthrows\\b", "\\btry\\b", "\\bcatch\\b", "\\bsynchronized\\b", "\\bassert\\b", "->", "::",
        "\\bpackage\\b", "\\bprotected\\b", "\\bvar\\b", "Exact\\b", "\\bhashCode\\b", "\\bequals\\b", "\\btoString\\b",
        "\\bSystem\\.(?!arraycopy\\b)", "\\bThread\\b", "\\bRandom\\b", "@", "\\bstatic\\s*\\{", "\"",
        "while\\s*\\(\\s*true\\s*\\)", "for\\s*\\(\\s*;\\s*;", "\\bString\\b", "\\bnew\\s+\\w+\\([^;]*\\)\\s*\\{",
    };
    private static final Set<String> LIBRARY = Set.of("Math.max(", "Math.min(", "Integer.signum(", "Arrays.fill(",
            "Arrays.copyOf(", "System.arraycopy(");
    private static final int MOST_LINES = 60, MOST_PARAMETERS = 7;

    public static void main(String[] args) throws IOException {
        Path path = Path.of("src/main/java/TypeRoom.java");
        String code = Files.readString(path).replaceAll("(?s)/\\*.*?\\*/", "").replaceAll("//[^\\n]*", "");
        for (String rule : LEFT_OUT) {
            Matcher found = Pattern.compile(rule).matcher(code);
            Due.isTrue("left out: " + rule, !found.find());
        }
        imports(code);
        library(code);
        statics(code);
        methods(code);
        for (int i = 0; i < code.length(); i++) {
            Due.isTrue("a character of 0 to 255", code.charAt(i) < 256);
        }
        Due.end();
    }

    private static void imports(String code) {
        Matcher found = Pattern.compile("import ([^;]+);").matcher(code);
        while (found.find()) {
            Due.is("import " + found.group(1), found.group(1).compareTo("java.util.Arrays"), 0);
        }
    }

    /** Of the library functions alone are listed, no constants. */
    private static void library(String code) {
        Matcher found = Pattern.compile("\\b(Integer|Long|Math|Arrays|System)\\.\\w+\\b\\(?").matcher(code);
        while (found.find()) {
            Due.isTrue(found.group() + " is of the library that is listed", LIBRARY.contains(found.group()));
        }
    }

    private static void statics(String code) {
        Matcher found = Pattern.compile("static (?!final|class)[\\w\\[\\]]+ \\w+ *[=;]").matcher(code);
        Due.isTrue("static fields are final", !found.find());
        found = Pattern.compile("(?<!static final )(?<!public final )class ").matcher(code);
        Due.isTrue("classes inside are static", !found.find());
    }

    private static void methods(String code) {
        Pattern head = Pattern.compile("^( {4}| {8})(?:public |private |static )*[\\w\\[\\]]+ ?\\w*\\(([^)]*)\\) \\{$",
                Pattern.MULTILINE);
        Matcher found = head.matcher(code);
        int count = 0;
        while (found.find()) {
            count++;
            String name = found.group().trim();
            String parameters = found.group(2).trim();
            int many = parameters.isEmpty() ? 0 : parameters.split(",").length;
            Due.isTrue(name + " has at most seven parameters", many <= MOST_PARAMETERS);
            int end = code.indexOf("\n" + found.group(1) + "}", found.end());
            long lines = code.substring(found.start(), end).chars().filter(c -> c == '\n').count() + 1;
            Due.isTrue(name + " is short", lines <= MOST_LINES);
        }
        Due.isTrue("methods were found", count > 100);
    }
}
