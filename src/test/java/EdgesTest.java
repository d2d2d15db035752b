/** Every sentence of the document that names an edge, with a test of its own; then, whether one was forgotten. */
public final class EdgesTest {
    public static void main(String[] args) {
        TextEdges.all();
        ParkEdges.all();
        IssueEdges.all();
        MoveEdges.all();
        TicketEdges.all();
        WaitEdges.all();
        SlotEdges.all();
        QueryEdges.all();
        PlanEdges.all();
        ScriptEdges.all();
        IndexEdges.all();
        GeneralEdges.all();
        Edges.allIsQuoted();
        Checks.end();
    }
}
