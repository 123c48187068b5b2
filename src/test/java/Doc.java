import java.io.IOException;
import java.io.UncheckedIOException;
import java.nio.file.Files;
import java.nio.file.Path;
import java.util.ArrayList;
import java.util.Arrays;
import java.util.List;
import java.util.regex.Matcher;
import java.util.regex.Pattern;

/** ../shared/DOC.md, so that a test can name the very words that it stands for. */
final class Doc {
    static final List<String> REFUSALS = Arrays.asList("BAD", "NO", "FULL", "NONE");
    // an answer stands behind a full stop, a semicolon or a bracket; "or q NONE" tells of an argument
    private static final Pattern ANSWER = Pattern.compile("[.;(] ?(BAD|NO|FULL|NONE)\\b");
    private static final String TEXT = read();

    private Doc() {
    }

    private static String read() {
        try {
            return Files.readString(Path.of("../shared/DOC.md")).replaceAll("\\s+", " ");
        } catch (IOException e) {
            throw new UncheckedIOException(e);
        }
    }

    static boolean says(String words) {
        return TEXT.contains(words);
    }

    /** Which of BAD, NO, FULL, NONE this promise names as answers. */
    static List<String> refusalsOf(int promise) {
        Matcher part = Pattern.compile("## Promise " + promise + ": (.*?) ## ").matcher(TEXT);
        if (!part.find()) {
            throw new IllegalStateException("the document has no promise " + promise);
        }
        List<String> named = new ArrayList<>();
        Matcher answer = ANSWER.matcher(part.group(1));
        while (answer.find()) {
            named.add(answer.group(1));
        }
        return named;
    }
}
