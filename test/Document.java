import java.io.IOException;
import java.nio.file.Files;
import java.nio.file.Path;
import java.util.ArrayList;
import java.util.List;
import java.util.regex.Matcher;
import java.util.regex.Pattern;

/** The document's own words (a file that -Ddocument names), so that no test quotes what does not stand there. */
final class Document {
    private static final Pattern PROMISE = Pattern.compile("## Promise \\d+: (\\w+)\\s+`[^`]*`: ([^#]*)");
    private static final Pattern REFUSAL = Pattern.compile("(?:NONE|False|-2|NoSuchElementException)(?:: [^.]*| likewise| for others)");
    private static final String TEXT = text();

    private Document() {
    }

    private static String text() {
        String path = System.getProperty("document");
        if (path == null) {
            return null;
        }
        try {
            return Files.readString(Path.of(path));
        } catch (IOException e) {
            throw new IllegalStateException("no document at " + path);
        }
    }

    /** Whether the words stand in the document; true where no document was named. */
    static boolean says(String words) {
        return TEXT == null || TEXT.replaceAll("\\s+", " ").contains(words);
    }

    /** What each promise says of what is refused, the name of its call before it. */
    static List<String> refusals() {
        List<String> all = new ArrayList<>();
        Matcher promise = PROMISE.matcher(TEXT == null ? "" : TEXT);
        while (promise.find()) {
            Matcher refusal = REFUSAL.matcher(promise.group(2));
            while (refusal.find()) {
                if (!refusal.group().equals("NONE: none")) {
                    all.add(promise.group(1) + ": " + refusal.group());
                }
            }
        }
        return all;
    }
}
