/** Each sentence of the document, the boundary cases above all, under its own words; none may be left over. */
public final class BoundaryTests {
    public static void main(String[] args) throws Exception {
        Doc.read();
        Description.test();
        GraphBoundaries.test();
        FlowBoundaries.test();
        ChangeBoundaries.test();
        Doc.end();
        Check.end("BoundaryTests");
    }
}
