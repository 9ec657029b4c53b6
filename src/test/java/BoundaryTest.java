/**
 * Each boundary case that the document names, as a case of its own with its promise's number: the last value inside a
 * bound and the first outside, nothing there, all full, numbers cut, calls refused and what stays, which answer first.
 */
public final class BoundaryTest {
    private BoundaryTest() {
    }

    public static void main(String[] args) {
        Check check = new Check();
        TapeBounds.run(check);
        NightBounds.run(check);
        WordBounds.run(check);
        SeenBounds.run(check);
        ChanceBounds.run(check);
        KeptBounds.run(check);
        ArgumentBounds.run(check);
        check.everyPromiseHasACase();
        check.close();
    }
}
