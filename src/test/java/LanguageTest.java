import java.io.IOException;
import java.nio.file.Files;
import java.nio.file.Path;
import java.util.TreeSet;
import java.util.regex.Matcher;
import java.util.regex.Pattern;

/** The rules of ../shared/LANGUAGE.md that the text of the program shows. It reads the file from the project's folder. */
public final class LanguageTest {
    private static final int MOST_LINES_OF_A_METHOD = 60;
    private static final int MOST_CLASSES = 12;

    private LanguageTest() {
    }

    public static void main(String[] args) throws IOException {
        String source = Files.readString(Path.of("src/main/java/BarnacleExchange.java"));
        String bare = source.replaceAll("(?s)/\\*.*?\\*/", "").replaceAll("//[^\n]*", "");
        String code = bare.replaceAll("\"[^\"\n]*\"", "\"\"").replaceAll("'(?:\\\\.|[^'\n])'", "' '");
        absent(source, "signs above 126", "[^\\n -~]");
        absent(code, "a package line", "\\bpackage\\b");
        absent(code, "lambdas and method references", "->|::");
        absent(code, "words that the rules leave out",
                "\\b(?:finally|try|catch|synchronized|assert|volatile|transient|native|strictfp|var|yield|switch\\s*\\{)\\b");
        absent(code, "static initialiser blocks", "\\bstatic\\s*\\{");
        absent(code, "static fields that are not final",
                "\\bstatic\\s+(?!final\\b|class\\b|abstract\\b)[\\w\\[\\]]+\\s+\\w+\\s*[=;]");
        absent(code, "functions that throw by themselves", "\\w+Exact\\s*\\(");
        absent(code, "equals, hashCode and toString", "\\b(?:equals|hashCode|toString)\\s*\\(");
        absent(bare, "texts that are joined by +", "\"\\s*\\+|\\+\\s*\"");
        Check.is(0, "imports", "[java.util.NoSuchElementException]",
                () -> found(code, "\\bimport\\s+([^;]+);").toString());
        Check.is(0, "exceptions that are thrown", new TreeSet<String>(), () -> {
            TreeSet<String> thrown = found(code, "\\bthrow\\s+([^;]+);");
            thrown.removeIf(t -> t.matches("new (?:IllegalState|IllegalArgument|IndexOutOfBounds|Arithmetic"
                    + "|UnsupportedOperation|NoSuchElement|Runtime)Exception\\(\"\"\\)"));
            return thrown;
        });
        Check.is(0, "number of classes", true, () -> count(code, "\\b(?:class|enum|interface|record)\\s+\\w") <= MOST_CLASSES);
        Check.is(0, "lines of the longest method", true, () -> longestMethod(code) <= MOST_LINES_OF_A_METHOD);
        Check.end("LanguageTest", 0, 0);
    }

    private static void absent(String text, String what, String pattern) {
        Check.is(0, what, new TreeSet<String>(), () -> found(text, "(" + pattern + ")"));
    }

    private static TreeSet<String> found(String text, String pattern) {
        TreeSet<String> all = new TreeSet<>();
        Matcher matcher = Pattern.compile(pattern).matcher(text);
        while (matcher.find()) {
            all.add(matcher.group(1).trim());
        }
        return all;
    }

    private static int count(String text, String pattern) {
        return (int) Pattern.compile(pattern).matcher(text).results().count();
    }

    /** A method begins with a line that has a "(" and ends with "{", and ends with a "}" under its first sign. */
    private static int longestMethod(String code) {
        int longest = 0;
        Matcher matcher = Pattern.compile("(?ms)^( {4}| {8})\\w[^;{}=]*\\([^;{}]*\\{$.*?^\\1\\}").matcher(code);
        while (matcher.find()) {
            longest = Math.max(longest, (int) matcher.group().lines().count());
        }
        return longest;
    }
}
