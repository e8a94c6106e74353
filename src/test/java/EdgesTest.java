import java.util.List;

/** Each sentence of the document that names a boundary case, tried on both sides of it. */
public final class EdgesTest {
    /** Sentences that name no case to try: they sum up, or tell what is free, or only introduce the next ones. */
    private static final List<String> WITHOUT_EDGE = List.of(
        "A stadium: blocks of chairs, stages that kill the chairs from which it cannot be seen, holds that expire, "
            + "groups that are kept together, sales, returns, upgrades by chains, "
            + "no-shows whose chairs are sold again, counts that add up by block, forecasts, "
            + "orders that are run from a text, and undo.",
        "All numbers are whole; prices and amounts are in one unit of money.",
        "Ahead of the calls `addBlock`, `addStage`, `addPiece`, `putUp`, "
            + "`takeDown` the interface says: ---- blocks and stages.",
        "Ahead of the calls `hold`, `buy`, `drop`, `giveBack`, `comeIn`, "
            + "`upgrade` the interface says: ---- holds and tickets.",
        "Ahead of the calls `pass`, `closeDoors`, `undo` the interface says: ---- time and doors.",
        "Ahead of the calls `append`, `clearText`, `run` the interface says: ---- programs.",
        "Returns a number.",
        "Returns a count of a block.",
        "Returns what a chair is.",
        "Returns a property of a hold.",
        "Returns a property of a ticket.",
        "How the state is held inside the object is free, as are the speed of each call, "
            + "the text of toString and the behaviour of equals and hashCode.",
        "Use of one object from several threads at once is not promised to be safe.",
        "Nothing is promised beyond the answers and state changes described above, "
            + "and nothing about an object after its 512th call.");

    public static void main(String[] args) {
        BlockEdges.run();
        StageEdges.run();
        HoldEdges.run();
        PlaceEdges.run();
        TicketEdges.run();
        UpgradeEdges.run();
        ProgramEdges.run();
        UndoEdges.run();
        Edge.everySentenceIsTested(WITHOUT_EDGE);
        Due.end();
    }
}
