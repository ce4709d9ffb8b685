/** The boundary cases of promises 1 to 31 and of the terms, each under the document's words that name it. */
public final class EdgeTest {
    public static void main(String[] args) {
        TermEdges.run();
        TapeEdges.run();
        BracketEdges.run();
        EditEdges.run();
        SheetEdges.run();
        RefusedEdges.run();
        Document.dueThatAllIsTested();
        Check.close();
    }
}
