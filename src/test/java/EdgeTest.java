/** For each sentence of the document that names a case of its own, a test of its own. */
public final class EdgeTest {
    public static void main(String[] args) throws Exception {
        Edges edges = new Edges();
        EdgePart[] parts = {new NetEdges(edges), new LawEdges(edges), new DeedEdges(edges), new RouteEdges(edges),
            new SpreadEdges(edges), new BackEdges(edges),
            new TrayEdges(edges), new RefusedEdges(edges), new AgainEdges(edges)};
        for (EdgePart part : parts) {
            part.all();
        }
        if (!edges.end()) {
            System.exit(1);
        }
    }
}
