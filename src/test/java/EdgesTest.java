import java.io.IOException;

/** Promises 1 to 31: each sentence that names a boundary, by itself. */
public final class EdgesTest {
    public static void main(String[] args) throws IOException {
        Edges edges = new Edges();
        TownEdges.all(edges);
        ActsEdges.all(edges);
        WorthEdges.all(edges);
        HeardEdges.all(edges);
        SharesEdges.all(edges);
        SlotsEdges.all(edges);
        edges.end();
    }
}
