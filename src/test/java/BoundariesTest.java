/** Each sentence of the document that names a boundary case; those that name none are told, too. */
public final class BoundariesTest {
    public static void main(String[] args) {
        compareAll();
        Check.end("BoundariesTest");
    }

    /** Also for src/test/mutants, which looks at what was not as due. */
    static void compareAll() {
        CallBoundaries.all();
        TextBoundaries.all();
        OperatorBoundaries.all();
        RunBoundaries.all();
        PaintBoundaries.all();
        NoBoundaries.all();
        Sentences.allWereNamed();
    }
}
