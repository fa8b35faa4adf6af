import java.io.IOException;
import java.nio.file.Files;
import java.nio.file.Path;
import java.util.ArrayList;
import java.util.Arrays;
import java.util.List;

/** The document: whether it holds the words that a test names, and which of its words none names. */
final class Document {
    static final int PROMISES = 32;
    private final String all;

    private Document(String all) {
        this.all = all;
    }

    static Document read(Path path) throws IOException {
        return new Document(Files.readString(path).replaceAll("```(text)?", " ")
                .replaceAll("\\s+", " "));
    }

    boolean holds(String words) {
        return all.contains(words);
    }

    /** What the words in capitals mean, without what stands ahead of the calls. */
    String terms() {
        return between("## Terms ", " Ahead of the calls").replaceAll("======== \\d ", "");
    }

    /** What a promise says, without the call's own line. */
    String promise(int number) {
        String next = number < PROMISES ? "## Promise " + (number + 1) + ":" : "## Not promised";
        String text = between("## Promise " + number + ":", next);
        return text.substring(text.indexOf("`: ") + 3);
    }

    private String between(String start, String end) {
        int from = all.indexOf(start);
        int to = from < 0 ? -1 : all.indexOf(end, from);
        return to < 0 ? start + " is not there" : all.substring(from + start.length(), to);
    }

    /** What is left of a text, if all words that some test names are taken away. */
    static List<String> untold(String text, List<String> told) {
        char[] left = text.toCharArray();
        for (String words : told) {
            int at = text.indexOf(words);
            while (at >= 0) {
                Arrays.fill(left, at, at + words.length(), '\n');
                at = text.indexOf(words, at + 1);
            }
        }
        List<String> untold = new ArrayList<>();
        for (String part : new String(left).split("\n+")) {
            if (part.matches(".*[A-Za-z0-9].*")) {
                untold.add(part);
            }
        }
        return untold;
    }
}
