/** For each sentence of the document that names a boundary case, a test of its own. */
public final class BoundaryTest {
    public static void main(String[] args) throws Exception {
        Bounds b = new Bounds();
        BoundTerms.test(b);
        BoundText.test(b);
        BoundLooks.test(b);
        BoundNotes.test(b);
        BoundKeeping.test(b);
        BoundRefusals.test(b);
        if (!b.holds()) {
            System.exit(1);
        }
    }
}
