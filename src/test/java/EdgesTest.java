import java.io.IOException;
import java.nio.file.Path;

/** A test for each sentence of the document that names an edge; the document's path is the second argument. */
public final class EdgesTest {
    private EdgesTest() {
    }

    public static void main(String[] args) throws IOException {
        all();
        if (args.length < 2) {
            Check.fail("the path of the document is missing");
        } else {
            Sentences.dueWhole(Path.of(args[1]));
        }
        Check.end();
    }

    static void all() {
        TermsEdges.all();
        RulesEdges.all();
        ChangeEdges.all();
        AnswerEdges.all();
    }
}
