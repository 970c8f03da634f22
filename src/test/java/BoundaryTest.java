import java.io.IOException;

/**
 * Every sentence of "Terms" and of the promises 1 to 36, by its own words, at its edges: too small, too large, empty,
 * full, round the ring, refused. A sentence of the document that no test names is a failure too.
 */
public final class BoundaryTest {
    public static void main(String[] args) throws IOException {
        Said said = new Said();
        TermsBounds.run(said);
        TapeBounds.run(said);
        StepTermsBounds.run(said);
        RefusedBounds.run(said);
        TextBounds.run(said);
        ChangeBounds.run(said);
        StepBounds.run(said);
        SortedBounds.run(said);
        SeenBounds.run(said);
        SheetBounds.run(said);
        said.end();
    }
}
