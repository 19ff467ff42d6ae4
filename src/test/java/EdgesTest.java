import java.io.IOException;

/** Promises 1 to 31: each sentence that names a boundary, by itself. */
public final class EdgesTest {
    public static void main(String[] args) throws IOException {
        Edges edges = new Edges();
        all(edges);
        edges.end();
    }

    /** How many answers are not as due. */
    static int wrong() throws IOException {
        Edges edges = new Edges();
        all(edges);
        return edges.wrong();
    }

    private static void all(Edges edges) {
        TownEdges.all(edges);
        ActsEdges.all(edges);
        WorthEdges.all(edges);
        HeardEdges.all(edges);
        SharesEdges.all(edges);
        SlotsEdges.all(edges);
    }
}
