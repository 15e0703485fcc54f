import java.io.IOException;

/** Each sentence of the document, from "Terms" to the last promise, with its boundary cases. */
public final class EdgesTest {
    public static void main(String[] args) throws IOException {
        Doc.read();
        TermEdges.all();
        DriftEdges.all();
        TextEdges.all();
        ChangeEdges.all();
        RangeEdges.all();
        PromiseEdges.all();
        WouldBeEdges.all();
        Due.about("");
        Doc.allIsQuoted();
        Due.end();
    }
}
