import java.io.IOException;
import java.nio.file.Files;
import java.nio.file.Path;
import java.util.ArrayList;
import java.util.List;
import java.util.regex.Matcher;
import java.util.regex.Pattern;

/** A document in Markdown, as it lies in a file: its words and the blocks in it. */
final class Document {
    /** The document that the class keeps to. */
    static final Document PROMISED = new Document(Path.of("../shared/DOC.md"));

    private final String text, ahead;

    Document(Path file) {
        text = read(file);
        ahead = text.split("(?m)^## Promise 1:")[0];
    }

    /** Without the document no test can tell anything, so it is not caught further on. */
    private static String read(Path file) {
        try {
            return Files.readString(file);
        } catch (IOException e) {
            throw new IllegalStateException("cannot read " + file, e);
        }
    }

    String text() {
        return text;
    }

    /** Whether the words stand in the sentence of a promise or ahead of the first one. */
    boolean saysOf(int promise, String words) {
        return ahead.contains(words) || promise(promise).contains(words);
    }

    /** What stands between lines of three backticks, the first of them with the name of a language. */
    List<String> blocks(String language) {
        Pattern block = Pattern.compile("(?ms)^```" + language + "\\n(.*?)^```$");
        List<String> all = new ArrayList<>();
        Matcher m = block.matcher(text);
        while (m.find()) {
            all.add(m.group(1));
        }
        return all;
    }

    /** The sentence of a promise, behind the call that it is about; none: an empty one. */
    String promise(int n) {
        Matcher m = Pattern.compile("(?m)^## Promise " + n + ": [^\\n]+\\n+`[^`]+`: ([^\\n]+)$").matcher(text);
        return m.find() ? m.group(1) : "";
    }
}
