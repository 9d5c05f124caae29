import java.io.IOException;
import java.lang.reflect.Method;
import java.lang.reflect.Modifier;
import java.net.URI;
import java.nio.charset.StandardCharsets;
import java.nio.file.Files;
import java.nio.file.Path;
import java.util.ArrayList;
import java.util.Comparator;
import java.util.List;
import java.util.function.Supplier;
import java.util.regex.Matcher;
import java.util.regex.Pattern;
import java.util.stream.Stream;
import javax.tools.JavaCompiler;
import javax.tools.JavaFileObject;
import javax.tools.SimpleJavaFileObject;
import javax.tools.ToolProvider;

/** README.md's example is compiled and run, and answers what stands behind its calls; the page leaves out no call and no test. */
public final class ReadmeTest {
    private static final Pattern EXAMPLE = Pattern.compile("(?s)```java\n(.*?)```");
    private static final Pattern ANSWERED = Pattern.compile("(x\\.\\w+\\(.*\\));\\s+// ([-\\w]+)(, .*)?");
    private static final Pattern ROW = Pattern.compile("(?m)^\\| `(\\w+)\\(([\\w, ]*)\\)` \\|");
    private static final Pattern TEST = Pattern.compile("(?m)^\\| `(\\w+Test)` \\|");

    public static void main(String[] args) throws IOException, ReflectiveOperationException {
        String page = Files.readString(Path.of("README.md"), StandardCharsets.UTF_8);
        example(page);
        calls(page);
        tests(page);
        Check.end();
    }

    private static void example(String page) throws IOException, ReflectiveOperationException {
        Matcher block = EXAMPLE.matcher(page);
        Check.due("an example stands in README.md", block.find(), true);
        List<String> calls = new ArrayList<>();
        List<String> want = new ArrayList<>();
        StringBuilder body = new StringBuilder();
        for (String line : block.group(1).split("\n")) {
            Matcher answered = ANSWERED.matcher(line);
            if (answered.matches()) {
                calls.add(answered.group(1));
                want.add(answered.group(2));
                body.append("told.append(").append(answered.group(1)).append(").append(' ');\n");
            } else {
                Check.due("an answer is read: " + line, line.indexOf("//") > 0, false);
                body.append(line).append('\n');
            }
        }
        Check.due("calls with an answer", want.size() > 10, true);
        String[] got = run(body.toString()).split(" ");
        Check.due("answers", got.length, want.size());
        for (int i = 0; i < got.length && i < want.size(); i++) {
            Check.due("README.md, " + calls.get(i), got[i], want.get(i));
        }
    }

    private static String run(String body) throws IOException, ReflectiveOperationException {
        String source = "public final class Example implements java.util.function.Supplier<String> {\n"
            + "public String get() {\nStringBuilder told = new StringBuilder();\n" + body + "return told.toString();\n}\n}\n";
        JavaFileObject file = new SimpleJavaFileObject(URI.create("string:///Example.java"), JavaFileObject.Kind.SOURCE) {
            @Override
            public CharSequence getCharContent(boolean ignoreEncodingErrors) {
                return source;
            }
        };
        Path out = Files.createTempDirectory("readme");
        try {
            JavaCompiler javac = ToolProvider.getSystemJavaCompiler();
            List<String> options = List.of("-d", out.toString(), "-cp", System.getProperty("java.class.path"));
            boolean compiled = javac.getTask(null, null, null, options, null, List.of(file)).call();
            Check.due("README.md's example compiles", compiled, true);
            return compiled ? answersOf(out) : "";
        } finally {
            delete(out);
        }
    }

    private static String answersOf(Path classes) throws IOException, ReflectiveOperationException {
        byte[] bytes = Files.readAllBytes(classes.resolve("Example.class"));
        ClassLoader loader = new ClassLoader(ReadmeTest.class.getClassLoader()) {
            @Override
            protected Class<?> findClass(String name) {
                return defineClass(name, bytes, 0, bytes.length);
            }
        };
        return ((Supplier<?>) loader.loadClass("Example").getDeclaredConstructor().newInstance()).get().toString();
    }

    private static void delete(Path folder) throws IOException {
        try (Stream<Path> files = Files.walk(folder)) {
            for (Path file : (Iterable<Path>) files.sorted(Comparator.reverseOrder())::iterator) {
                Files.delete(file);
            }
        }
    }

    /** Each call of the face has one row, with as many arguments as it takes. */
    private static void calls(String page) {
        List<String> rows = new ArrayList<>();
        Matcher row = ROW.matcher(page);
        while (row.find()) {
            int count = row.group(2).isEmpty() ? 0 : row.group(2).split(", ").length;
            rows.add(row.group(1) + " of " + count);
        }
        List<String> face = new ArrayList<>();
        for (Method method : Restitutory.class.getDeclaredMethods()) {
            if (Modifier.isPublic(method.getModifiers())) {
                face.add(method.getName() + " of " + method.getParameterCount());
            }
        }
        rows.sort(null);
        face.sort(null);
        Check.due("the calls in README.md", rows.toString(), face.toString());
    }

    private static void tests(String page) throws IOException {
        List<String> rows = new ArrayList<>();
        Matcher row = TEST.matcher(page);
        while (row.find()) {
            rows.add(row.group(1) + ".java");
        }
        List<String> there = new ArrayList<>();
        try (Stream<Path> files = Files.list(Path.of("src/test/java"))) {
            for (Path file : (Iterable<Path>) files::iterator) {
                if (file.toString().endsWith("Test.java")) {
                    there.add(file.getFileName().toString());
                }
            }
        }
        rows.sort(null);
        there.sort(null);
        Check.due("the tests in README.md", rows.toString(), there.toString());
    }
}
