/** A test of its own for each sentence of the document that names a boundary case. */
final class BoundaryTest {
    private BoundaryTest() {
    }

    public static void main(String[] args) {
        TermsBoundaries.strokesAndPen();
        TermsBoundaries.simplifying();
        TermsBoundaries.weldingAndJoining();
        TermsBoundaries.measures();
        TermsBoundaries.textAndErrors();
        PromiseBoundaries.pen();
        PromiseBoundaries.changing();
        PromiseBoundaries.asking();
        PromiseBoundaries.forecasts();
        PromiseBoundaries.text();
        PromiseBoundaries.undoing();
        Sentences.compare();
        Check.end("BoundaryTest");
    }
}
