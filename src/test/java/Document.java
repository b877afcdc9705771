import java.io.IOException;
import java.io.UncheckedIOException;
import java.nio.file.Files;
import java.nio.file.Path;
import java.util.ArrayList;
import java.util.List;
import java.util.Map;
import java.util.TreeMap;
import java.util.regex.Matcher;
import java.util.regex.Pattern;

/** The words of ../shared/DOC.md, by the sections 1 to 7 and the promises 1 to 65. */
final class Document {
    private static final Map<String, String> PARTS = parts();

    private Document() {
    }

    /** A part is "section 3" or "promise 14"; breaks of lines do not matter. */
    static boolean says(String part, String words) {
        return PARTS.getOrDefault(part, "").contains(words);
    }

    /** The exceptions of a promise in the order in which they are listed, by their simple names. */
    static List<String> thrown(int promise) {
        List<String> names = new ArrayList<>();
        Matcher thrown = Pattern.compile("Throws `(\\w+)` if ")
                .matcher(PARTS.getOrDefault("promise " + promise, ""));
        while (thrown.find()) {
            names.add(thrown.group(1));
        }
        return names;
    }

    static int promises() {
        return (int) PARTS.keySet().stream().filter(part -> part.startsWith("promise")).count();
    }

    private static Map<String, String> parts() {
        Map<String, String> parts = new TreeMap<>();
        String text = read();
        Matcher promises = Pattern.compile("(?s)\n## Promise (\\d+): (.*?)(?=\n## )").matcher(text);
        while (promises.find()) {
            parts.put("promise " + promises.group(1), joined(promises.group(2)));
        }
        Matcher sections = Pattern.compile("(?s)\n([1-7])\\. ([A-Z].*?)(?=\n[2-7]\\. |\nThe constants:)")
                .matcher(text);
        while (sections.find()) {
            parts.put("section " + sections.group(1), joined(sections.group(2)));
        }
        return parts;
    }

    private static String joined(String text) {
        return text.replaceAll("\\s+", " ");
    }

    private static String read() {
        try {
            return Files.readString(Path.of("../shared/DOC.md"));
        } catch (IOException e) {
            throw new UncheckedIOException(e);
        }
    }
}
