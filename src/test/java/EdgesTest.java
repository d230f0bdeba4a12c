import java.io.IOException;

/** The document, promise by promise: each sentence that names a boundary case. */
public final class EdgesTest {
    public static void main(String[] args) throws IOException {
        Edges e = new Edges();
        ToldEdges.lookAt(e);
        FaultEdges.lookAt(e);
        DoneEdges.lookAt(e);
        UndoneEdges.lookAt(e);
        AskedEdges.lookAt(e);
        PlannedEdges.lookAt(e);
        OffEdges.lookAt(e);
        ImageEdges.lookAt(e);
        RefusedEdges.lookAt(e);
        e.end();
    }
}
