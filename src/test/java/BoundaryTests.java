/** Each sentence of the document that names a boundary, by a test of its own that says which promise it holds. */
public final class BoundaryTests {
    private static final int PROMISES = 44;

    private BoundaryTests() {
    }

    public static void main(String[] args) {
        ShelfBoundaries.run();
        CellarBoundaries.run();
        MindBoundaries.run();
        RestBoundaries.run();
        for (int promise = 1; promise <= PROMISES; promise++) {
            Check.holds("promise " + promise + " has a boundary tested", Check.promisesHeld().contains(promise));
        }
        Check.close();
    }
}
