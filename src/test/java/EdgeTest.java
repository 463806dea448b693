/** The document read again: each of its sentences that names a boundary case, with its own runs. */
public final class EdgeTest {
    private EdgeTest() {
    }

    public static void main(String[] args) {
        NetEdges.hold();
        RowEdges.hold();
        WalkerEdges.hold();
        WalkEdges.hold();
        LearntEdges.hold();
        Sentences.allAreTouched();
        Script.end();
    }
}
