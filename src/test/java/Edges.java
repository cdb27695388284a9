import java.io.IOException;
import java.nio.file.Files;
import java.nio.file.Path;
import java.util.ArrayList;
import java.util.List;

/** Tests of single sentences: each one quotes its own, which has to stand in the document. */
final class Edges {
    static final int MIN = Integer.MIN_VALUE;
    static final int MAX = Integer.MAX_VALUE;
    private static final Path DOCUMENT = Path.of("../shared/DOC.md");

    private final List<String> lines = Files.readAllLines(DOCUMENT);
    private final List<Due> parts = new ArrayList<>();
    private final List<Integer> askedAtFirst = new ArrayList<>();

    Edges() throws IOException {
    }

    Due of(String chapter, String words) {
        Due due = new Due(chapter + ", \"" + words + "\"");
        due.is("the document's words", textOf(chapter).contains(words) ? 1 : 0, 1);
        parts.add(due);
        askedAtFirst.add(due.asked());
        return due;
    }

    void end() {
        for (int i = 0; i < parts.size(); i++) {
            parts.get(i).is("the sentence has answers", parts.get(i).asked() > askedAtFirst.get(i) ? 1 : 0, 1);
        }
        System.out.println(parts.size() + " sentences");
        Due.end(parts.toArray(new Due[0]));
    }

    /** A chapter is the lines between its heading and the next heading; its name may be the heading's beginning. */
    private String textOf(String chapter) {
        StringBuilder text = new StringBuilder();
        boolean isInside = false;
        for (String line : lines) {
            if (line.startsWith("#")) {
                isInside = (line.replaceAll("^#+ ", "") + ":").startsWith(chapter + ":");
            } else if (isInside) {
                text.append(line).append('\n');
            }
        }
        return text.toString();
    }
}
