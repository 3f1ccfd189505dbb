import java.util.ArrayList;
import java.util.List;

/** Counts the answers of one test class and tells the wrong ones. */
final class Check {
    /** A call whose exception is looked at. */
    interface Call {
        long answer();
    }

    /** A sentence of the document under one of its headings, on which a test has its eye. */
    record Sentence(String heading, String text) {
    }

    private static final List<Sentence> SENTENCES = new ArrayList<>();

    private static int right = 0;
    private static int wrong = 0;
    private static Sentence current = null;

    private Check() {
    }

    /** Runs the test of a sentence. An exception that gets out of it ends this one test alone. */
    static void test(String heading, String sentence, Runnable test) {
        current = new Sentence(heading, sentence);
        SENTENCES.add(current);
        int before = right + wrong;
        try {
            test.run();
            isTrue("an answer about this sentence", right + wrong > before);
        } catch (RuntimeException e) {
            tellWrong("the test ended with " + e + " at " + e.getStackTrace()[0]);
        }
        current = null;
    }

    static List<Sentence> sentences() {
        return SENTENCES;
    }

    static void same(String what, long got, long want) {
        if (got == want) {
            right++;
        } else {
            tellWrong(what + " answered " + got + ", due is " + want);
        }
    }

    static void isTrue(String what, boolean holds) {
        same(what, holds ? 1 : 0, 1);
    }

    static void sameText(String what, String got, String want) {
        if (got.equals(want)) {
            right++;
        } else {
            tellWrong(what + " answered " + got + ", due is " + want);
        }
    }

    static void sameDouble(String what, double got, double want) {
        same(what, Double.doubleToLongBits(got), Double.doubleToLongBits(want));
    }

    private static void tellWrong(String message) {
        wrong++;
        if (current != null) {
            System.out.println("[" + current.heading() + "] " + current.text());
        }
        System.out.println("    " + message);
    }

    /** The answer as a text, or the name of the exception behind "throws.". */
    static String answerOf(Call call) {
        try {
            return Long.toString(call.answer());
        } catch (RuntimeException e) {
            return "throws." + e.getClass().getSimpleName();
        }
    }

    /** The call throws just this exception, none derived from it, and leaves the digest alone. */
    static void fails(ZeroParts z, String what, String exception, Call call) {
        long before = z.digest();
        sameText(what, answerOf(call), "throws." + exception);
        same(what + " leaves the digest", z.digest(), before);
    }

    static void failsOnIndex(ZeroParts z, String what, Call call) {
        fails(z, what, "IndexOutOfBoundsException", call);
    }

    static void failsOnArgument(ZeroParts z, String what, Call call) {
        fails(z, what, "IllegalArgumentException", call);
    }

    static void failsOnState(ZeroParts z, String what, Call call) {
        fails(z, what, "IllegalStateException", call);
    }

    static void finish() {
        System.out.println(right + " answers as due, " + wrong + " not");
        if (wrong != 0) {
            System.exit(1);
        }
    }
}
