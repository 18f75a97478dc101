import java.io.IOException;
import java.nio.file.Files;
import java.nio.file.Path;
import java.util.Set;
import java.util.TreeSet;
import java.util.regex.Matcher;
import java.util.regex.Pattern;

/** The rules of LANGUAGE.md that the text of the program shows: what is used, and how long and how wide it is. */
final class LanguageTest {
    private static final Path PROGRAM = Path.of("src/main/java/BeliefForge.java");
    private static final String METHOD = "(?m)^( +)(?:private |public |static )*[\\w\\[\\]]+ (\\w+)\\(([^)]*)\\)[^;{]*\\{$";

    public static void main(String[] args) throws IOException {
        String text = Files.readString(PROGRAM);
        String code = withoutTexts(text);
        noneOf(code);
        library(code);
        exceptions(text, code);
        sizes(code);
        calls(code);
        Check.end();
    }

    /** Comments and written texts are no code; their lines stay, so that lengths are told rightly. */
    private static String withoutTexts(String text) {
        String code = text.replaceAll("\"[^\"\n]*\"", "\"\"");
        Matcher comments = Pattern.compile("(?s)/\\*.*?\\*/").matcher(code);
        code = comments.replaceAll(found -> found.group().replaceAll("[^\n]", ""));
        return code.replaceAll("//[^\n]*", "");
    }

    private static void noneOf(String code) {
        String[] words = {"package", "try", "catch", "finally", "synchronized", "assert", "volatile", "native",
            "extends", "super", "var", "yield", "NaN", "Thread", "Random", "System", "float"};
        for (String word : words) {
            Check.same("rules 2 to 6 and 13: uses of " + word, 0, count(code, "\\b" + word + "\\b"));
        }
        Check.same("rule 2: lambdas", 0, count(code, "->"));
        Check.same("rule 2: method references", 0, count(code, "::"));
        Check.same("rule 5: static blocks", 0, count(code, "static\\s*\\{"));
        Check.same("rule 3: rests of doubles are easily NaN, so % is not used", 0, count(code, "%"));
        Check.same("rule 3: characters above 255", 0, count(code, "[^\\x00-\\xff]"));
    }

    private static void library(String code) {
        Check.same("rule 4: imports", "[import java.util.NoSuchElementException;]",
                matches(code, "(?m)^import.*$").toString());
        Check.same("rule 4: Math, over int alone", "[Math.min]", matches(code, "Math\\.\\w+").toString());
    }

    private static void exceptions(String text, String code) {
        int throwing = count(code, "\\bthrow\\b");
        String written = "throw new (IllegalStateException|IllegalArgumentException|IndexOutOfBoundsException"
                + "|UnsupportedOperationException|NoSuchElementException)\\(\"[^\"]+\"\\);";
        Check.same("rule 6: exceptions of the document with a written text", throwing, count(text, written));
    }

    private static void sizes(String code) {
        Check.same("rule 11: at most twelve classes", 1, count(code, "\\bclass \\w+") <= 12 ? 1 : 0);
        String[] lines = code.split("\n", -1);
        Matcher methods = Pattern.compile(METHOD).matcher(code);
        int seen = 0;
        while (methods.find()) {
            seen++;
            int first = lineOf(code, methods.start());
            int last = first;
            while (!lines[last].equals(methods.group(1) + "}")) {
                last++;
            }
            Check.same("rule 11: " + methods.group(2) + " is short", 1, last - first < 60 ? 1 : 0);
            int parameters = methods.group(3).isEmpty() ? 0 : methods.group(3).split(",").length;
            Check.same("rule 11: parameters of " + methods.group(2), 1, parameters <= 7 ? 1 : 0);
        }
        Check.same("methods that were looked at", 1, seen > 60 ? 1 : 0);
    }

    /** Rows are made with the object, so that no call makes any: a run of all calls lives in one room. */
    private static void calls(String code) {
        String fieldsAndConstructor = "(?m)^ +private final [\\w\\[\\]]+ \\w+ = new .*$|^ +\\w+ = new [A-Z]\\w+\\(.*\\);$";
        int made = count(code, "\\bnew\\b") - count(code, "throw new");
        Check.same("rule 12: objects made by calls", made, count(code, fieldsAndConstructor));
    }

    private static int lineOf(String code, int at) {
        return (int) code.substring(0, at).chars().filter(c -> c == '\n').count();
    }

    private static int count(String text, String pattern) {
        return (int) Pattern.compile(pattern).matcher(text).results().count();
    }

    private static Set<String> matches(String text, String pattern) {
        Set<String> all = new TreeSet<>();
        Pattern.compile(pattern).matcher(text).results().forEach(found -> all.add(found.group()));
        return all;
    }
}
