import java.io.IOException;

/** Stage 2: each sentence of the document that names an edge has a test of its own; none is left out. */
public final class EdgesTest {
    public static void main(String[] args) throws IOException {
        Edges edges = new Edges(new Check("EdgesTest"), Document.isThere() ? new Document() : null);
        new EdgesOfPupils(edges).all();
        new EdgesOfSchemes(edges).all();
        new EdgesOfReaders(edges).all();
        new EdgesOfMarks(edges).all();
        new EdgesOfRelease(edges).all();
        new EdgesOfFace(edges).all();
        edges.end();
    }
}
