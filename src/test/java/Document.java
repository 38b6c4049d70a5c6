import java.io.IOException;
import java.nio.file.Files;
import java.nio.file.Path;
import java.util.ArrayList;
import java.util.List;
import java.util.regex.Pattern;

/** The document's sentences, as "section | sentence", without the signature that a promise begins with. */
final class Document {
    static final Path PLACE = Path.of("..", "shared", "DOC.md");
    private static final Pattern EDGE = Pattern.compile("\\d|\\b(at most|at least|at first|empty|empties|full|no|not|none"
            + "|nothing|same|last|kept|replaces|afterwards|if|several|again|least|fewest|lowest|greatest|nearest"
            + "|rounded|successful|without|too|still|both converted|stand for)\\b", Pattern.CASE_INSENSITIVE);

    private final List<String> sentences = new ArrayList<>();
    private final StringBuilder paragraph = new StringBuilder();
    private String section = "";

    Document() throws IOException {
        boolean code = false;
        for (String line : Files.readAllLines(PLACE)) {
            if (line.startsWith("```")) {
                code = !code;
            } else if (!code) {
                read(line);
            }
        }
        endParagraph();
    }

    private void read(String line) {
        if (line.startsWith("#")) {
            endParagraph();
            section = line.replaceAll("^#+ ", "").replaceAll(":.*", "");
        } else if (line.isBlank()) {
            endParagraph();
        } else if (line.startsWith("- ")) {
            endParagraph();
            paragraph.append(line.substring(2));
        } else {
            paragraph.append(paragraph.length() > 0 ? " " : "").append(line);
        }
    }

    private void endParagraph() {
        String text = paragraph.toString().replaceFirst("^`[^`]*\\([^`]*\\)[^`]*`: ", "");
        paragraph.setLength(0);
        for (String sentence : text.split("(?<=\\.) +(?=[A-Z])")) {
            if (!sentence.isEmpty()) {
                sentences.add(section + " | " + sentence);
            }
        }
    }

    boolean says(String sentence) {
        return sentences.contains(sentence);
    }

    /** What the class has to keep and what reads like a boundary case: a number, or a word such as "empty". */
    List<String> edges() {
        List<String> edges = new ArrayList<>();
        for (String sentence : sentences) {
            boolean binds = sentence.startsWith("Terms | ") || sentence.startsWith("Promise ")
                    || sentence.startsWith("What it is | ");
            String words = sentence.substring(sentence.indexOf(" | ") + 3);
            if (binds && EDGE.matcher(words).find()) {
                edges.add(sentence);
            }
        }
        return edges;
    }
}
