import java.io.IOException;
import java.nio.charset.StandardCharsets;
import java.nio.file.Files;
import java.nio.file.Path;
import java.util.ArrayList;
import java.util.List;
import java.util.regex.Pattern;

/** The sentences of ../shared/DOC.md, each one behind the name of the section in which it stands. */
final class Document {
    private static final Path FILE = Path.of("..", "shared", "DOC.md");
    private static final Pattern ITEM = Pattern.compile("^(- |[0-9]\\. )");
    private static final Pattern SIGNATURE = Pattern.compile("^(\\w+ )?\\w+\\([^)]*\\)( throws [\\w, ]+)?: ");
    private static final Pattern SENTENCE_END = Pattern.compile("(?<=\\.)\\s+(?=[A-Z])");

    private final List<String> sentences = new ArrayList<>();
    private String section = "";

    static boolean isHere() {
        return Files.isReadable(FILE);
    }

    static List<String> sentences() throws IOException {
        Document document = new Document();
        boolean isCode = false;
        for (String line : Files.readAllLines(FILE, StandardCharsets.UTF_8)) {
            if (line.startsWith("```")) {
                isCode = !isCode;
            } else if (!isCode) {
                document.read(line.trim());
            }
        }
        return document.sentences;
    }

    private void read(String line) {
        if (line.startsWith("#")) {
            section = line.replaceAll("^#+ ", "").replaceAll(":.*", "");
            return;
        }
        String text = ITEM.matcher(line).replaceFirst("").replace("`", "");
        text = SIGNATURE.matcher(text).replaceFirst("");
        for (String sentence : SENTENCE_END.split(text)) {
            if (!sentence.isEmpty()) {
                sentences.add(section + " | " + sentence);
            }
        }
    }
}
