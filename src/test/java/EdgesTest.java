import java.io.IOException;

/** Every sentence of the document's parts 1 to 4 and promises 1 to 28 has a test of its own. */
public final class EdgesTest {
    public static void main(String[] args) throws IOException {
        Edges e = new Edges();
        Part1Edges.test(e);
        Part2Edges.test(e);
        Part3Edges.test(e);
        Part4Edges.test(e);
        ManorEdges.test(e);
        ActsEdges.test(e);
        ComingEdges.test(e);
        SaidEdges.test(e);
        ChancesEdges.test(e);
        SlotsEdges.test(e);
        e.end();
    }
}
