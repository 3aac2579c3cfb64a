import java.io.IOException;

/** Each sentence of the document that names an edge has answers of its own: run from the project's root. */
public final class EdgesTest {
    public static void main(String[] args) throws IOException {
        Edges edges = new Edges();
        TextEdges.play(edges);
        ActsEdges.play(edges);
        QuestionEdges.play(edges);
        HeardEdges.play(edges);
        edges.close();
    }
}
