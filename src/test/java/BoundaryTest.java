import java.io.IOException;

/** For each sentence of the document that names a boundary a test of its own. */
public final class BoundaryTest {
    public static void main(String[] args) throws IOException {
        MenBoundaries.all();
        TextBoundaries.all();
        DayBoundaries.all();
        DaysOnBoundaries.all();
        TrustBoundaries.all();
        ToldBoundaries.all();
        ShelfBoundaries.all();
        if (Boundary.finish() != 0) {
            System.exit(1);
        }
    }
}
