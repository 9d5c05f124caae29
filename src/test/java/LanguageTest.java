import java.io.IOException;
import java.nio.charset.StandardCharsets;
import java.nio.file.Files;
import java.nio.file.Path;
import java.util.regex.Matcher;
import java.util.regex.Pattern;

/** Those rules of LANGUAGE.md that the text of the program shows at once; .ci/run starts it in the project's folder. */
public final class LanguageTest {
    private static final String[] NOT_THERE = {
        "package", "finally", "synchronized", "assert", "hashCode", "getClass", "identityHashCode", "Object", "native",
        "volatile", "transient", "Thread", "Random", "Exact", "currentTimeMillis", "nanoTime", "getMessage",
    };
    private static final String EXCEPTIONS = "(IllegalState|IllegalArgument|IndexOutOfBounds|Arithmetic"
        + "|UnsupportedOperation|NoSuchElement|Runtime)Exception";

    public static void main(String[] args) throws IOException {
        String source = Files.readString(Path.of("src/main/java/Restitutory.java"), StandardCharsets.UTF_8);
        for (int i = 0; i < source.length(); i++) {
            if (source.charAt(i) != '\n' && (source.charAt(i) < ' ' || source.charAt(i) > '~')) {
                Check.due("the sign at " + i, source.charAt(i), ' ');
            }
        }
        String code = source.replaceAll("(?s)/\\*.*?\\*/", "").replaceAll("//[^\n]*", "").replaceAll("\"[^\"]*\"", "\"\"");
        for (String word : NOT_THERE) {
            Check.due("has " + word, Pattern.compile("\\b" + word + "\\b").matcher(code).find(), false);
        }
        Check.due("has a lambda", code.contains("->"), false);
        Check.due("has a method reference", code.contains("::"), false);
        Check.due("joins texts by +", code.contains("\" +") || code.contains("+ \""), false);
        Check.due("at most twelve classes", count("\\b(class|enum|interface)\\b", code) <= 12, true);
        Check.due("throws only new ones", count("\\bthrow\\b", code),
            count("\\bthrow new " + EXCEPTIONS + "\\((\"\")?\\);", code));
        Check.due("catches only what rule 6 names", count("\\bcatch\\b", code),
            count("\\bcatch \\(" + EXCEPTIONS + " \\w+\\)", code));
        Check.due("imports only what rule 4 names", count("\\bimport\\b", code),
            count("(?m)^import java\\.util\\.(ArrayList|List|Arrays|Iterator|NoSuchElementException);", code));
        Check.due("other static state", count("\\bstatic (?!final|class)(?![\\w<>\\[\\]]+ \\w+\\()", code), 0);
        methodLengths(code);
        Check.end();
    }

    private static int count(String pattern, String code) {
        Matcher matcher = Pattern.compile(pattern).matcher(code);
        int count = 0;
        while (matcher.find()) {
            count++;
        }
        return count;
    }

    /** A method begins at four or eight blanks and ends with a brace at the same ones. */
    private static void methodLengths(String code) {
        Matcher matcher = Pattern.compile("(?m)^((?:    ){1,2})(?! )[^\n;=]*\\([^;=]*?\\{\n(?s:.*?)^\\1\\}").matcher(code);
        int methods = 0;
        while (matcher.find()) {
            methods++;
            int lines = matcher.group().split("\n").length;
            Check.due("a method of " + lines + " lines", lines <= 60, true);
        }
        Check.due("methods were found", methods > 20, true);
    }
}
