import java.nio.file.Files;
import java.nio.file.Path;

/** Each sentence of the document's Terms and promises by itself, its boundary cases first: see Edges and Script. */
public final class EdgesTest {
    public static void main(String[] args) throws Exception {
        Edges edges = new Edges(Files.readString(Path.of("../shared/DOC.md")));
        new TermsEdges(edges).play();
        new ShelfEdges(edges).play();
        new FieldEdges(edges).play();
        new CountEdges(edges).play();
        new TableEdges(edges).play();
        edges.end();
    }
}
