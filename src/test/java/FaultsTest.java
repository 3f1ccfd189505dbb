/** All command texts of up to five pieces, for their faults, against the Model's slow search. */
public final class FaultsTest {
    private static final String[] PIECES = {"add", "lay", "split", "lit", " ", ";", "1", "23", "~"};
    private static final int LONGEST = 5;

    public static void main(String[] args) {
        follow("", 0);
        Check.finish();
    }

    private static void follow(String text, int pieces) {
        judge(text);
        for (int k = 0; k < PIECES.length && pieces < LONGEST; k++) {
            follow(text + PIECES[k], pieces + 1);
        }
    }

    private static void judge(String text) {
        ZeroParts z = new ZeroParts();
        for (int k = 0; k < text.length(); k++) {
            z.type(text.charAt(k));
        }
        int fault = Model.fault(text);
        int answer = z.runCommands();
        Check.same("fault of '" + text + "'", answer <= -10 ? -10 - answer : -1, fault);
    }
}
