import java.io.IOException;
import java.nio.charset.StandardCharsets;
import java.nio.file.Files;
import java.nio.file.Path;
import java.util.ArrayList;
import java.util.List;
import java.util.TreeSet;
import java.util.regex.Matcher;
import java.util.regex.Pattern;
import java.util.stream.Stream;

/**
 * Each sentence of what the document says the class is, of its terms and of its promises is one that a test says it is
 * about, by Check.term or Check.sentence; and those say nothing that does not stand in the document. .ci/run starts it
 * in the project's folder.
 */
public final class SentencesTest {
    private static final String TITLE = "Restitutory, things taken in dark years";
    private static final Pattern HEADING = Pattern.compile("## Promise (\\d+): .*");
    private static final Pattern TEXT = Pattern.compile("\"((?:[^\"\\\\]|\\\\.)*)\"");
    private static final Pattern SAID = Pattern.compile("Check\\.(?:term\\(|sentence\\((\\d+), )((?:\\s*\\+?\\s*\"[^\"]*\")+)\\)");

    public static void main(String[] args) throws IOException {
        TreeSet<String> wanted = wanted(Files.readAllLines(Path.of("../shared/DOC.md"), StandardCharsets.UTF_8));
        TreeSet<String> said = new TreeSet<>();
        try (Stream<Path> files = Files.list(Path.of("src/test/java"))) {
            for (Path file : (Iterable<Path>) files::iterator) {
                said.addAll(said(Files.readString(file, StandardCharsets.UTF_8)));
            }
        }
        for (String sentence : wanted) {
            Check.due("tested: " + sentence, said.contains(sentence), true);
        }
        for (String sentence : said) {
            Check.due("stands in the document: " + sentence, wanted.contains(sentence), true);
        }
        Check.due("promises with sentences", promises(wanted), 22);
        Check.end();
    }

    /** The sentences of a promise behind its number, the others behind a 0. */
    private static TreeSet<String> wanted(List<String> lines) {
        TreeSet<String> found = new TreeSet<>();
        int part = -1;
        for (String line : lines) {
            Matcher heading = HEADING.matcher(line);
            if (heading.matches()) {
                part = Integer.parseInt(heading.group(1));
            } else if (line.startsWith("## ")) {
                part = line.equals("## Terms") || line.equals("## What it is") ? 0 : -1;
            } else if (part > 0 && !line.isEmpty()) {
                found.add(part + " " + line.replaceFirst("^`[^`]*`: ", ""));
            } else if (part == 0 && line.endsWith(".") && !line.startsWith("Ahead of the calls") && !line.startsWith(TITLE)) {
                for (String sentence : line.split("(?<=\\.) ")) {
                    found.add("0 " + sentence);
                }
            }
        }
        return found;
    }

    private static List<String> said(String source) {
        List<String> found = new ArrayList<>();
        Matcher call = SAID.matcher(source);
        while (call.find()) {
            StringBuilder text = new StringBuilder(call.group(1) == null ? "0 " : call.group(1) + " ");
            Matcher part = TEXT.matcher(call.group(2));
            while (part.find()) {
                text.append(part.group(1));
            }
            found.add(text.toString());
        }
        return found;
    }

    private static int promises(TreeSet<String> wanted) {
        TreeSet<String> numbers = new TreeSet<>();
        for (String sentence : wanted) {
            numbers.add(sentence.substring(0, sentence.indexOf(' ')));
        }
        return numbers.size() - 1;
    }
}
