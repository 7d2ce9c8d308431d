import java.io.IOException;
import java.nio.file.Files;
import java.nio.file.Path;

/** Terms I to IV and promises 1 to 46, sentence by sentence: each edge that a sentence of the document names. */
public final class EdgesTest {
    private static final Path DOCUMENT = Path.of("../shared/DOC.md");

    public static void main(String[] args) throws IOException {
        Check check = new Check();
        new TextEdges(check).run();
        new TapeEdges(check).run();
        new AgainEdges(check).run();
        new NearEdges(check).run();
        new NowEdges(check).run();
        new PlanEdges(check).run();
        new GivenEdges(check).run();
        new LotEdges(check).run();
        new DrawEdges(check).run();
        new ActEdges(check).run();
        check.holdAgainst(Files.readString(DOCUMENT));
        check.end();
    }
}
