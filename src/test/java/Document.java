import java.io.IOException;
import java.io.UncheckedIOException;
import java.nio.file.Files;
import java.nio.file.Path;
import java.util.ArrayList;
import java.util.LinkedHashMap;
import java.util.List;
import java.util.Map;

/** The sentences of ../shared/DOC.md, section by section, so that tests can quote them. */
final class Document {
    private static final Path FILE = Path.of("../shared/DOC.md");
    // Headings inside a section, and the sentence that leads over to the promises: they ask for nothing.
    private static final String NO_SENTENCE = "[A-Z][a-z]+( and [a-z]+)?\\.|The constants:|The constructor and the methods follow.*";

    private final Map<String, List<String>> sections = new LinkedHashMap<>();
    private final StringBuilder paragraph = new StringBuilder();
    private List<String> current = new ArrayList<>();

    Document() {
        boolean code = false;
        for (String line : read()) {
            if (line.startsWith("```")) {
                code = !code;
            } else if (line.startsWith("## ")) {
                endParagraph();
                current = new ArrayList<>();
                sections.put(line.substring(3).replaceFirst("^(Promise \\d+): .*", "$1"), current);
            } else if (line.startsWith("- ")) {
                endParagraph();
                paragraph.append(line.substring(2).replace("`", ""));
            } else if (line.isBlank() || code || line.startsWith("`") || line.startsWith("---- ")) {
                endParagraph();
            } else {
                paragraph.append(paragraph.length() == 0 ? "" : " ").append(line.strip());
            }
        }
        endParagraph();
    }

    /** The sentences of a section; what a promise returns is taken apart at the semicolons. */
    List<String> sentences(String section) {
        return sections.getOrDefault(section, List.of());
    }

    private static List<String> read() {
        try {
            return Files.readAllLines(FILE);
        } catch (IOException e) {
            throw new UncheckedIOException(e);
        }
    }

    private void endParagraph() {
        String all = paragraph.toString();
        paragraph.setLength(0);
        String between = all.startsWith("Returns ") ? "; " : "(?<=\\.|\\.\\)) (?=[A-Z(])";
        for (String sentence : all.split(between)) {
            if (!sentence.isEmpty() && !sentence.matches(NO_SENTENCE)) {
                current.add(sentence);
            }
        }
    }
}
