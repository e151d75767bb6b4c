/**
 * Each sentence of the document that names a boundary case, by a test of its own; together they leave no word
 * of the Terms and the promises out.
 */
public final class EdgesTest {
    public static void main(String[] args) {
        Edges edges = new Edges();
        new TokenEdges(edges).all();
        new FaultEdges(edges).all();
        new RosterEdges(edges).all();
        new BestWayEdges(edges).all();
        new RefusedEdges(edges).all();
        new TapeEdges(edges).all();
        new AskEdges(edges).all();
        new WayEdges(edges).all();
        new ActEdges(edges).all();
        edges.finish();
    }
}
