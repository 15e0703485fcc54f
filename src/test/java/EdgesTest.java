import java.io.IOException;

/** Each sentence of the document, from its first section to the last promise, with its boundary cases. */
public final class EdgesTest {
    public static void main(String[] args) throws IOException {
        Doc.read();
        FirstEdges.all();
        TermEdges.all();
        DriftEdges.all();
        TextEdges.all();
        ChangeEdges.all();
        RangeEdges.all();
        PromiseEdges.all();
        WouldBeEdges.all();
        Due.about("");
        Doc.allIsQuoted();
        Due.end();
    }
}
