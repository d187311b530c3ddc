/** Each sentence of the document that names an edge, by a test of its own; and that none is left out. */
public final class EdgeTests {
    private EdgeTests() {
    }

    public static void main(String[] args) throws Exception {
        Edges edges = new Edges(Made.due);
        EdgesOfTerms.run(edges);
        EdgesOfAsking.run(edges);
        EdgesOfPlainWords.run(edges);
        EdgesOfPromises.run(edges);
        edges.nothingIsLeft();
        Made.due.end();
    }
}
