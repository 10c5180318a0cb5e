/** Each sentence of the document that names an edge: too small, too large, empty, full, a wrap-around, a refusal. */
public final class EdgeTest {
    public static void main(String[] args) throws Exception {
        Edges e = new Edges();
        RangeEdges.hold(e);
        RefusalEdges.hold(e);
        MarkEdges.hold(e);
        MonthEdges.hold(e);
        ThoughtEdges.hold(e);
        TextEdges.hold(e);
        SheetEdges.hold(e);
        ImageEdges.hold(e);
        e.allWereSaid();
        e.due.end();
    }
}
