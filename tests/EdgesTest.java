/**
 * For each sentence of the document that names a boundary case a test of its own,
 * promise by promise; what is not as due is told with its promise and sentence.
 */
public final class EdgesTest {
    public static void main(String[] args) {
        TextEdges.all();
        RideEdges.all();
        HoldEdges.all();
        SendEdges.all();
        WishEdges.all();
        LetterEdges.all();
        YearEdges.all();
        StateEdges.all();
        for (int n = 1; n <= 45; n++) {
            Check.so("promise " + n + " is asked", Check.isPromiseAsked(n));
        }
        Check.finish();
    }
}
