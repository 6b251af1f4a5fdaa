import java.io.IOException;
import java.nio.file.Path;

/**
 * A test of its own for each sentence of the document that names a boundary. It fails also if such a
 * sentence has no test, or if a test cites what the document does not say. Its argument is the project's folder.
 */
public final class EdgesTest {
    public static void main(String[] args) throws IOException {
        String root = args.length > 0 ? args[0] : ".";
        Edges edges = new Edges(new Document(Path.of(root, "../shared/DOC.md")));
        new DescriptionEdges(edges).tell();
        new SignEdges(edges).tell();
        new LookupEdges(edges).tell();
        new SentenceEdges(edges).tell();
        new SpaceEdges(edges).tell();
        new TextEdges(edges).tell();
        new StateEdges(edges).tell();
        edges.end();
    }
}
