import java.io.IOException;
import java.nio.file.Files;
import java.nio.file.Path;
import java.util.ArrayList;
import java.util.List;

/**
 * The edges that the document names, sentence by sentence. If the document is there (-Ddoc tells
 * where), it looks as well whether each sentence that a test names stands in it, and whether each
 * one of its sentences is named by a test.
 */
public final class EdgesTest extends Edges {
    public static void main(String[] args) throws IOException {
        PageEdges.run();
        HouseEdges.run();
        LawEdges.run();
        ActEdges.run();
        ThingEdges.run();
        HabitEdges.run();
        WayEdges.run();
        StateEdges.run();
        Path path = Path.of(System.getProperty("doc", "../shared/DOC.md"));
        if (Files.exists(path)) {
            allIsTold(Document.read(path));
        } else {
            System.out.println("EdgesTest: there is no document " + path + " to look into");
        }
        end();
    }

    private static void allIsTold(Document document) {
        List<String> words = new ArrayList<>();
        for (Quote quote : List.copyOf(quotes())) {
            words.add(quote.words());
            dueNothing("not in the document", document.holds(quote.words()) ? List.of()
                    : List.of(quote.words()));
        }
        dueNothing("a term without a test", Document.untold(document.terms(), words));
        for (int promise = 1; promise <= Document.PROMISES; promise++) {
            List<String> own = new ArrayList<>();
            for (Quote quote : quotes()) {
                if (quote.promise() == promise) {
                    own.add(quote.words());
                }
            }
            dueNothing("promise " + promise + " without a test",
                    Document.untold(document.promise(promise), own));
        }
    }

    private static void dueNothing(String told, List<String> words) {
        due(told + ": " + words, words.size(), 0);
    }
}
