import java.io.IOException;
import java.nio.file.Files;
import java.nio.file.Path;
import java.util.List;

/** All promises: each boundary sentence of the document by a test of its own, and no words of it without a test. */
public final class EdgesTest {
    private static final Path DOCUMENT = Path.of("../shared/DOC.md");

    public static void main(String[] args) throws IOException, IllegalAccessException {
        Words words = Files.exists(DOCUMENT) ? new Words(DOCUMENT) : null;
        List<Edges> all = List.of(new TankEdges(words), new TextEdges(words), new StoryEdges(words),
                new StandingEdges(words), new RuleEdges(words), new StreetEdges(words), new WitnessEdges(words),
                new MarkEdges(words));
        int tests = 0;
        int wrong = 0;
        for (Edges edges : all) {
            edges.runAll();
            tests += edges.testCount();
            wrong += edges.wrongCount();
        }
        wrong += wordsLeft(words);
        System.out.println(wrong == 0 ? "as due, by " + tests + " tests" : wrong + " are not as due");
        if (wrong != 0) {
            System.exit(1);
        }
    }

    private static int wordsLeft(Words words) {
        if (words == null) {
            System.out.println("no " + DOCUMENT + ": the tests' quotations are not looked up");
            return 0;
        }
        for (String left : words.left()) {
            System.out.println("no test quotes " + left);
        }
        return words.left().size();
    }
}
