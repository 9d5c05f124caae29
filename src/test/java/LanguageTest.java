import java.io.IOException;
import java.lang.reflect.Constructor;
import java.lang.reflect.Executable;
import java.lang.reflect.Field;
import java.lang.reflect.Method;
import java.lang.reflect.Modifier;
import java.nio.charset.StandardCharsets;
import java.nio.file.Files;
import java.nio.file.Path;
import java.util.ArrayList;
import java.util.Arrays;
import java.util.List;
import java.util.regex.Matcher;
import java.util.regex.Pattern;

/** Those rules of LANGUAGE.md that the program's text or its classes show at once; .ci/run starts it in the project's folder. */
public final class LanguageTest {
    private static final String[] NOT_THERE = {
        "package", "finally", "synchronized", "assert", "hashCode", "getClass", "identityHashCode", "Object", "native",
        "volatile", "transient", "Thread", "Random", "Exact", "currentTimeMillis", "nanoTime", "getMessage",
    };
    /** Rule 4's library, as far as its names are written ahead of a dot; instances' calls are not looked at. */
    private static final String STATIC_CALLS = "(Integer|Long|Math)\\.(compare|max|min|abs|bitCount|floorDiv|floorMod|signum)"
        + "|System\\.arraycopy|Arrays\\.(copyOf|copyOfRange|fill)|List\\.of";
    private static final String LIBRARY_TYPES = "String|StringBuilder|Integer|ArrayList|List|Iterator|Iterable|Comparable";
    private static final String EXCEPTIONS = "(IllegalState|IllegalArgument|IndexOutOfBounds|Arithmetic"
        + "|UnsupportedOperation|NoSuchElement|Runtime)Exception";

    public static void main(String[] args) throws IOException {
        String source = Files.readString(Path.of("src/main/java/Restitutory.java"), StandardCharsets.UTF_8);
        for (int i = 0; i < source.length(); i++) {
            if (source.charAt(i) != '\n' && (source.charAt(i) < ' ' || source.charAt(i) > '~')) {
                Check.due("the sign at " + i, source.charAt(i), ' ');
            }
        }
        String code = source.replaceAll("(?s)/\\*.*?\\*/", "").replaceAll("//[^\n]*", "").replaceAll("\"[^\"]*\"", "\"\"");
        for (String word : NOT_THERE) {
            Check.due("has " + word, Pattern.compile("\\b" + word + "\\b").matcher(code).find(), false);
        }
        Check.due("has a lambda", code.contains("->"), false);
        Check.due("has a method reference", code.contains("::"), false);
        Check.due("joins texts by +", code.contains("\" +") || code.contains("+ \""), false);
        Check.due("at most twelve classes", count("\\b(class|enum|interface)\\b", code) <= 12, true);
        Check.due("throws only new ones", count("\\bthrow\\b", code),
            count("\\bthrow new " + EXCEPTIONS + "\\((\"\")?\\);", code));
        Check.due("catches only what rule 6 names", count("\\bcatch\\b", code),
            count("\\bcatch \\(" + EXCEPTIONS + " \\w+\\)", code));
        Check.due("imports only what rule 4 names", count("\\bimport\\b", code),
            count("(?m)^import java\\.util\\.(ArrayList|List|Arrays|Iterator|NoSuchElementException);", code));
        Check.due("other static state", count("\\bstatic (?!final|class)(?![\\w<>\\[\\]]+ \\w+\\()", code), 0);
        methodLengths(code);
        library(code);
        for (Class<?> type : classes()) {
            fields(type);
            parameters(type);
        }
        Check.end();
    }

    private static int count(String pattern, String code) {
        Matcher matcher = Pattern.compile(pattern).matcher(code);
        int count = 0;
        while (matcher.find()) {
            count++;
        }
        return count;
    }

    /** A method begins at four or eight blanks and ends with a brace at the same ones. */
    private static void methodLengths(String code) {
        Matcher matcher = Pattern.compile("(?m)^((?:    ){1,2})(?! )[^\n;=]*\\([^;=]*?\\{\n(?s:.*?)^\\1\\}").matcher(code);
        int methods = 0;
        while (matcher.find()) {
            methods++;
            int lines = matcher.group().split("\n").length;
            Check.due("a method of " + lines + " lines", lines <= 60, true);
        }
        Check.due("methods were found", methods > 20, true);
    }

    private static List<Class<?>> classes() {
        List<Class<?>> found = new ArrayList<>(Arrays.asList(Restitutory.class.getDeclaredClasses()));
        for (Class<?> type : found) {
            boolean hidden = !Modifier.isPublic(type.getModifiers()) && !Modifier.isProtected(type.getModifiers());
            Check.due(type.getName() + " is private or package-visible", hidden, true);
            Check.due(type.getName() + " is static", Modifier.isStatic(type.getModifiers()), true);
        }
        found.add(Restitutory.class);
        return found;
    }

    /** Rules 3 and 4: each name that begins as a class's does is the program's own or one of the library that is left. */
    private static void library(String code) {
        StringBuilder own = new StringBuilder("Restitutory");
        for (Class<?> type : Restitutory.class.getDeclaredClasses()) {
            own.append('|').append(type.getSimpleName());
        }
        Matcher called = Pattern.compile("\\b[A-Z]\\w*[a-z]\\w*\\.\\w+").matcher(code);
        while (called.find()) {
            Check.due("the library has " + called.group(), called.group().matches(STATIC_CALLS + "|(" + own + ")\\..*"), true);
        }
        Matcher named = Pattern.compile("\\b[A-Z]\\w*[a-z]\\w*\\b(?!\\.)").matcher(code);
        while (named.find()) {
            Check.due("the library has " + named.group(),
                named.group().matches(own + "|" + LIBRARY_TYPES + "|" + EXCEPTIONS), true);
        }
    }

    /** Rules 3, 5 and 11: what a field may be, and how many a class has. */
    private static void fields(Class<?> type) {
        int count = 0;
        for (Field field : type.getDeclaredFields()) {
            String name = type.getName() + "." + field.getName();
            boolean fixed = Modifier.isStatic(field.getModifiers());
            count += fixed ? 0 : 1;
            Check.due(name + " is final, if static", !fixed || Modifier.isFinal(field.getModifiers()), true);
            Class<?> held = field.getType();
            int dimensions = 0;
            while (held.isArray()) {
                held = held.getComponentType();
                dimensions++;
            }
            Check.due(name + " has so few dimensions", dimensions <= (held.isPrimitive() ? 2 : 1), true);
            Check.due(name + " is of a type of the program's own or the library", held.isPrimitive()
                || held == Restitutory.class || held.getEnclosingClass() == Restitutory.class
                || held.getSimpleName().matches(LIBRARY_TYPES), true);
        }
        Check.due("the fields of " + type.getName() + " are some twenty", count <= 20, true);
    }

    /** Rule 11. */
    private static void parameters(Class<?> type) {
        List<Executable> all = new ArrayList<>();
        for (Method method : type.getDeclaredMethods()) {
            all.add(method);
        }
        for (Constructor<?> constructor : type.getDeclaredConstructors()) {
            all.add(constructor);
        }
        for (Executable one : all) {
            Check.due(type.getName() + "." + one.getName() + " takes at most seven", one.getParameterCount() <= 7, true);
        }
    }
}
