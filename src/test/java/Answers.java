import java.util.Arrays;

/** What can be seen of an object, and calls on it that should, or should not, leave it the same. */
final class Answers {
    interface Act {
        long on(ZeroParts z);
    }

    /** Of the sets of ten places no more can be blocks, as none contains another. */
    static final int MOST_BLOCKS = 252;

    private Answers() {
    }

    static void type(ZeroParts z, String text) {
        for (int k = 0; k < text.length(); k++) {
            z.type(text.charAt(k));
        }
    }

    /** The answer of a run of this text alone. */
    static int run(ZeroParts z, String text) {
        z.clearCommands();
        type(z, text);
        return z.runCommands();
    }

    /** Group, elements, parts and all that the digest has but the undo stack and the text. */
    static String state(ZeroParts z) {
        StringBuilder seen = new StringBuilder();
        seen.append(z.whole(0)).append(',').append(z.whole(1)).append(':');
        for (int place = 0; place < z.whole(4); place++) {
            seen.append(' ').append(z.at(place, 0)).append('/').append(z.at(place, 1));
        }
        seen.append(" blocks");
        for (int index = 0; index < MOST_BLOCKS && z.block(index) != ZeroParts.NONE; index++) {
            seen.append(' ').append(z.block(index));
        }
        return seen.append(" sums ").append(z.sums()).toString();
    }

    static String elements(ZeroParts z) {
        return row(z, 0);
    }

    static String parts(ZeroParts z) {
        return row(z, 1);
    }

    private static String row(ZeroParts z, int what) {
        StringBuilder seen = new StringBuilder();
        for (int place = 0; place < z.whole(4); place++) {
            seen.append(place == 0 ? "" : " ").append(z.at(place, what));
        }
        return seen.toString();
    }

    /** All that can be seen of the object, the saved states and the text too; it is used up by it. */
    static String whole(ZeroParts z) {
        StringBuilder seen = new StringBuilder(state(z));
        seen.append(" text ").append(z.whole(13)).append(" digest ").append(z.digest());
        for (int steps = 0; steps < 6; steps++) {
            String left = Check.answerOf(() -> z.undo());
            seen.append("\nundo ").append(left).append(": ").append(state(z));
        }
        return seen.append("\nrun ").append(z.runCommands()).append(": ").append(state(z)).toString();
    }

    /** The call throws just this exception, and changes nothing, with a full undo stack or not. */
    static void refuses(State state, String what, String exception, Act act) {
        refuses(what + " after calls", exception, act, state.byCalls(), state.byCalls());
        refuses(what + " after a run", exception, act, state.byRun(), state.byRun());
    }

    private static void refuses(String what, String exception, Act act, ZeroParts z, ZeroParts twin) {
        Check.sameText(what, Check.answerOf(() -> act.on(z)), "throws." + exception);
        Check.sameText(what + " leaves", whole(z), whole(twin));
    }

    static void refusesIndex(State state, String what, Act act) {
        refuses(state, what, "IndexOutOfBoundsException", act);
    }

    static void refusesArgument(State state, String what, Act act) {
        refuses(state, what, "IllegalArgumentException", act);
    }

    static void refusesState(State state, String what, Act act) {
        refuses(state, what, "IllegalStateException", act);
    }

    /** The call answers, and changes nothing, not the undo stack either. */
    static void changesNothing(State state, String what, Act act) {
        ZeroParts first = state.byRun();
        act.on(first);
        Check.sameText("undo right after " + what, Check.answerOf(() -> first.undo()), "0");
        ZeroParts z = state.byCalls();
        act.on(z);
        Check.sameText(what + " after calls changes nothing", whole(z), whole(state.byCalls()));
        ZeroParts other = state.byRun();
        act.on(other);
        Check.sameText(what + " after a run changes nothing", whole(other), whole(state.byRun()));
    }

    /** The call saves just the state from before it, and at most the oldest one drops out. */
    static void savesOne(State state, String what, Act act) {
        savesOne(what + " after calls", act, state.byCalls(), state.byCalls(), state.calls());
        savesOne(what + " after a run", act, state.byRun(), state.byRun(), 1);
    }

    private static void savesOne(String what, Act act, ZeroParts z, ZeroParts twin, int saved) {
        String before = state(z);
        act.on(z);
        int left = Math.min(3, saved);
        Check.sameText(what + ": states left by undo", Check.answerOf(() -> z.undo()), Integer.toString(left));
        Check.sameText(what + ": state after undo", state(z), before);
        for (; left > 0; left--) {
            Check.answerOf(() -> z.undo());
            twin.undo();
            Check.sameText(what + ": state with one less than " + left + " left", state(z), state(twin));
        }
        Check.sameText(what + ": undo at the bottom", Check.answerOf(() -> z.undo()), "throws.IllegalStateException");
    }

    /** Some ints outside a range: next to it, far off, and where a shift or a narrower type wraps. */
    static int[] outside(int low, int high) {
        int[] all = {
            low - 1, high + 1, high + 2, -high, -low - 1, 31, 32, 33, 63, 64, 65, 127, 128, 255, 256, 257, 32768, 65536,
            65537, 1 << 30, Integer.MAX_VALUE, Integer.MIN_VALUE, Integer.MIN_VALUE + 1, -2, -32, -64, -128, -256, -65536};
        int count = 0;
        int[] found = new int[all.length];
        for (int value : all) {
            if (value < low || value > high) {
                found[count] = value;
                count++;
            }
        }
        return Arrays.copyOf(found, count);
    }
}
