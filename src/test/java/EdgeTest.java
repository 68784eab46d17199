/** Each sentence of the document has a test of its own, which tells it; those of one section or promise stand together. */
public final class EdgeTest {
    public static void main(String[] args) {
        FrontEdges.all();
        TermEdges.all();
        ChangeEdges.all();
        ListenerEdges.all();
        StoreEdges.all();
        MacroEdges.all();
        RegionEdges.all();
        MergeEdges.all();
        CommandEdges.all();
        CallEdges.all();
        QueryEdges.all();
        Doc.leavesNothingOut();
        Check.end("EdgeTest");
    }
}
