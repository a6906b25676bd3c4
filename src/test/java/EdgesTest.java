import java.io.IOException;

/**
 * Sentence by sentence of the document: one below the bound that it names, at the bound, one above it, the empty and
 * the full, what wraps around, and what is refused. In the end each of its sentences must have been named by a check.
 */
public final class EdgesTest {
    private EdgesTest() {}

    public static void main(String[] args) throws IOException {
        Doc.read();
        WholeEdges.all();
        TextEdges.all();
        OddsEdges.all();
        ChangeEdges.all();
        RefusalEdges.all();
        Doc.end();
        Check.end();
    }
}
