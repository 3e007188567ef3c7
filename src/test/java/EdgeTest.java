/** Each sentence of the document that names a boundary case, with a test of its own. */
public final class EdgeTest {
    private EdgeTest() { }

    public static void main(String[] args) {
        TermsEdges.run();
        ReckoningEdges.run();
        CaseEdges.run();
        OwedEdges.run();
        PaidEdges.run();
        Edge.SENTENCES.end();
        Edge.CHECK.end();
    }
}
