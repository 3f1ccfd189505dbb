/** Counts the answers of one test class and tells the wrong ones. */
final class Check {
    /** A call whose exception is looked at. */
    interface Call {
        long answer();
    }

    private static int right = 0;
    private static int wrong = 0;

    private Check() {
    }

    static void same(String what, long got, long want) {
        if (got == want) {
            right++;
        } else {
            wrong++;
            System.out.println(what + " answered " + got + ", due is " + want);
        }
    }

    static void sameText(String what, String got, String want) {
        if (got.equals(want)) {
            right++;
        } else {
            wrong++;
            System.out.println(what + " answered " + got + ", due is " + want);
        }
    }

    /** The answer as a text, or the name of the exception behind "throws.". */
    static String answerOf(Call call) {
        try {
            return Long.toString(call.answer());
        } catch (RuntimeException e) {
            return "throws." + e.getClass().getSimpleName();
        }
    }

    /** The call throws just this exception, none derived from it, and leaves the digest alone. */
    static void fails(ZeroParts z, String what, String exception, Call call) {
        long before = z.digest();
        sameText(what, answerOf(call), "throws." + exception);
        same(what + " leaves the digest", z.digest(), before);
    }

    static void failsOnIndex(ZeroParts z, String what, Call call) {
        fails(z, what, "IndexOutOfBoundsException", call);
    }

    static void failsOnArgument(ZeroParts z, String what, Call call) {
        fails(z, what, "IllegalArgumentException", call);
    }

    static void failsOnState(ZeroParts z, String what, Call call) {
        fails(z, what, "IllegalStateException", call);
    }

    static void finish() {
        System.out.println(right + " answers as due, " + wrong + " not");
        if (wrong != 0) {
            System.exit(1);
        }
    }
}
