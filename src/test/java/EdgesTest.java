/** Each sentence of the document that names an edge, tested by itself; and that no sentence is without a test. */
public final class EdgesTest {
    private EdgesTest() {
    }

    public static void main(String[] args) throws Exception {
        RowEdges.run();
        TextEdges.run();
        ActEdges.run();
        GateEdges.run();
        ForetoldEdges.run();
        AskEdges.run();
        if (Sentences.end() != 0) {
            System.exit(1);
        }
    }
}
