/** The edges that the document names, sentence by sentence. */
public final class EdgesTest {
    public static void main(String[] args) throws Exception {
        TermsEdges.all();
        TextsEdges.all();
        DeedsEdges.all();
        QuestionsEdges.all();
        PiecesEdges.all();
        Document.check();
        Edges.close();
    }
}
