import java.math.BigInteger;
import java.util.Arrays;

/** Promises 23 to 27: the calls under 'command text, undo and checksum'. */
final class StateBoundaries {
    private static final String TYPE = "Promise 23: type";
    private static final String CLEAR = "Promise 24: clearCommands";
    private static final String RUN = "Promise 25: runCommands";
    private static final String UNDO = "Promise 26: undo";
    private static final String DIGEST = "Promise 27: digest";

    private StateBoundaries() {
    }

    static void all() {
        type();
        typeRange();
        clearCommands();
        runCommands();
        runUndoable();
        runAnswers();
        undo();
        undoRefused();
        digest();
        digestOfEachValue();
    }

    private static ZeroParts typed(String text) {
        ZeroParts z = new ZeroParts();
        Answers.type(z, text);
        return z;
    }

    private static void type() {
        Check.test(TYPE, "Appends a byte to the command text.", () -> {
            ZeroParts z = typed("add 1");
            Check.same("before the semicolon", z.runCommands(), -15);
            z.type(';');
            Check.same("behind it", z.runCommands(), 1);
            ZeroParts saved = State.of(6, 1, 1, 5).byCalls();
            long states = saved.undo();
            saved.type('a');
            Check.same("typing saves no state", saved.undo(), states - 1);
            Check.same("undo leaves what was typed", saved.whole(13), 1);
        });
        Check.test(TYPE, "Returns the length of the text.", () -> {
            ZeroParts lengths = new ZeroParts();
            for (int length = 1; length <= 150; length++) {
                Check.same("length", lengths.type(length % 128), length);
            }
            lengths.clearCommands();
            Check.same("length after clearing", lengths.type(0), 1);
        });
    }

    private static void typeRange() {
        Check.test(TYPE, "- `value`: 0 to 127", () -> {
            for (int value = 0; value <= 127; value++) {
                ZeroParts z = new ZeroParts();
                Check.same("type(" + value + ")", z.type(value), 1);
                Check.same("run of the byte " + value, z.runCommands(), value == ' ' ? 0 : -10);
            }
        });
        Check.test(TYPE, "Throws `IllegalArgumentException` if value is out of range", () -> {
            for (int wrong : Answers.outside(0, 127)) {
                Answers.refusesArgument(State.of(6, 1, 1), "type(" + wrong + ")", z -> z.type(wrong));
            }
            // These are 32 and 127 as bytes.
            Answers.refusesArgument(State.of(6, 1, 1), "type(288)", z -> z.type(288));
            Answers.refusesArgument(State.of(6, 1, 1), "type(-129)", z -> z.type(-129));
        });
        Check.test(TYPE, "Throws `IllegalStateException` if the text has 150 bytes", () -> {
            ZeroParts z = typed("add 5;".repeat(24) + "add 5");
            Check.same("the 150th byte", z.type(';'), 150);
            for (int value = 0; value <= 127; value++) {
                int each = value;
                Check.failsOnState(z, "type(" + value + ") to a full text", () -> z.type(each));
            }
            Check.same("run of the full text", z.runCommands(), 10);
            z.clearCommands();
            Check.same("type after clearing a full text", z.type(' '), 1);
        });
    }

    private static void clearCommands() {
        Check.test(CLEAR, "Empties the command text.", () -> {
            ZeroParts z = typed("add 1;");
            z.clearCommands();
            Check.same("length", z.whole(13), 0);
            Check.same("run", z.runCommands(), 0);
            Check.same("elements after the run", z.whole(4), 0);
            Answers.type(z, "add 2;");
            Check.same("run of the next text", z.runCommands(), 1);
            Check.same("element", z.at(0, 0), 2);
            ZeroParts saved = State.of(6, 1, 1, 5).byCalls();
            saved.type('a');
            saved.clearCommands();
            Check.same("clearing saves no state", saved.undo(), 2);
            Check.same("undo brings no text back", saved.whole(13), 0);
        });
        Check.test(CLEAR, "Returns the length that it had.", () -> {
            Check.same("of the empty text", new ZeroParts().clearCommands(), 0);
            Check.same("of one byte", typed("a").clearCommands(), 1);
            ZeroParts full = typed("a".repeat(150));
            Check.same("of 150 bytes", full.clearCommands(), 150);
            Check.same("once more", full.clearCommands(), 0);
        });
    }

    private static void runCommands() {
        Check.test(RUN, "Runs the command text, which stays as it is. ", () -> {
            ZeroParts z = typed("add 1;lay 0 2;");
            Check.same("run", z.runCommands(), 2);
            Check.same("length after the run", z.whole(13), 14);
            Check.same("run once more", z.runCommands(), 2);
            Check.sameText("elements", Answers.elements(z), "1 1");
            Check.sameText("parts", Answers.parts(z), "2 0");
            z.type('?');
            Check.same("run with a fault", z.runCommands(), -24);
            Check.same("run with a fault once more", z.runCommands(), -24);
            Check.same("length after the fault", z.whole(13), 15);
            z.clearCommands();
            Answers.type(z, "minus 9;");
            Check.same("run of what would throw", z.runCommands(), 0);
            Check.same("length after it", z.whole(13), 8);
        });
    }

    private static void runUndoable() {
        State state = State.of(6, 1, 1, 5, 2).laid(0, 3, 5);
        Check.test(RUN, "Undoable, if it has no fault.", () -> {
            Answers.savesOne(state, "a run", z -> Answers.run(z, "add 1;"));
            Answers.savesOne(state, "a run of the empty text", z -> Answers.run(z, ""));
            Answers.savesOne(state, "a run of no command", z -> Answers.run(z, "add 6;add 1;"));
            Answers.savesOne(State.of(6, 1), "a run of a full text", z -> Answers.run(z, "split;".repeat(25)));
            String[] faults = {"?", "add 1;add", "add 1;?", "split;;"};
            for (String text : faults) {
                ZeroParts z = state.byCalls();
                ZeroParts twin = state.byCalls();
                Answers.run(z, text);
                Answers.type(twin, text);
                Check.sameText("a run of '" + text + "' changes nothing", Answers.whole(z), Answers.whole(twin));
                ZeroParts empty = typed(text);
                empty.runCommands();
                Check.failsOnState(empty, "undo after a run of '" + text + "'", () -> empty.undo());
            }
        });
    }

    private static void runAnswers() {
        Check.test(RUN, "Returns the number of commands that were carried out; ", () -> {
            Check.same("none", typed("").runCommands(), 0);
            Check.same("none of one", typed("add 6;").runCommands(), 0);
            Check.same("one", typed("add 5;").runCommands(), 1);
            Check.same("one of three", typed("add 5;add 6;add 5;").runCommands(), 1);
            Check.same("ten of eleven", typed("add 5;".repeat(11)).runCommands(), 10);
            Check.same("25", typed("split;".repeat(25)).runCommands(), 25);
        });
        Check.test(RUN, "-10 minus the fault if it has one.", () -> {
            Check.same("the first byte", typed("?").runCommands(), -10);
            Check.same("the second byte", typed(" ?").runCommands(), -11);
            Check.same("the end of three bytes", typed("add").runCommands(), -13);
            Check.same("the last of 150 bytes", typed(" ".repeat(149) + "?").runCommands(), -159);
            Check.same("the end of 150 bytes", typed(" ".repeat(147) + "add").runCommands(), -160);
            Check.same("the first of 150 bytes", typed("z".repeat(150)).runCommands(), -10);
            Check.same("behind commands that could be carried out", typed("add 1;add 2;?").runCommands(), -22);
        });
    }

    private static void undo() {
        Check.test(UNDO, "Restores the latest saved state and removes it from the undo stack.", () -> {
            ZeroParts z = State.of(6, 1).byCalls();
            String[] states = new String[5];
            for (int call = 0; call < 4; call++) {
                states[call] = Answers.state(z);
                z.add(call + 1);
            }
            z.type('a');
            for (int call = 3; call >= 0; call--) {
                z.undo();
                Check.sameText("state before the call " + call, Answers.state(z), states[call]);
            }
            Check.same("text", z.whole(13), 1);
            ZeroParts other = State.of(6, 6, 35, 7).laid(5, 5).byCalls();
            String before = Answers.state(other);
            other.begin(2, 2);
            other.add(3);
            other.undo();
            other.undo();
            Check.sameText("state of another group", Answers.state(other), before);
            Check.same("good parts of it", other.whole(11), 1);
            other.lay(0, 1);
            other.undo();
            Check.sameText("state, which undo did not save", Answers.state(other), before);
        });
        Check.test(UNDO, "Returns the number of states that are left on the stack.", () -> {
            ZeroParts five = State.of(6, 1, 1, 2, 3, 4).byCalls();
            for (int left = 3; left >= 0; left--) {
                Check.same("left of four", five.undo(), left);
            }
            five.add(5);
            Check.same("left of one", five.undo(), 0);
            five.add(5);
            five.add(5);
            Check.same("left of two", five.undo(), 1);
            five.add(4);
            Check.same("left of two, one of which is new", five.undo(), 1);
        });
    }

    private static void undoRefused() {
        Check.test(UNDO, "Throws `IllegalStateException` if the stack is empty", () -> {
            ZeroParts z = new ZeroParts();
            Check.failsOnState(z, "undo of a new object", () -> z.undo());
            z.type('a');
            z.clearCommands();
            Check.failsOnState(z, "undo of a text", () -> z.undo());
            z.add(1);
            z.undo();
            Check.failsOnState(z, "undo of what was undone", () -> z.undo());
            Check.failsOnState(z, "undo once more", () -> z.undo());
            Answers.type(z, "?");
            z.runCommands();
            Check.failsOnState(z, "undo of a run with a fault", () -> z.undo());
            Check.sameText("a refused add", Check.answerOf(() -> z.add(6)), "throws.IndexOutOfBoundsException");
            Check.failsOnState(z, "undo of a refused add", () -> z.undo());
            z.add(2);
            Check.same("undo of an add after all that", z.undo(), 0);
        });
    }

    /** The hash of these values in numbers of any length, cut to 64 bits at the end. */
    private static long hash(long... values) {
        BigInteger h = BigInteger.valueOf(43602);
        for (long value : values) {
            h = h.multiply(BigInteger.valueOf(31)).add(BigInteger.valueOf(value));
        }
        return h.longValue();
    }

    private static final class Row {
        private final long[] values = new long[500];
        private int length;

        private void add(long value) {
            values[length] = value;
            length++;
        }

        private long hash() {
            return StateBoundaries.hash(Arrays.copyOf(values, length));
        }
    }

    /** The values of the digest in the document's order, as the object's other calls answer them. */
    private static long digestOf(ZeroParts z, int states) {
        Row row = new Row();
        row.add(states);
        for (int what = 0; what <= 13; what++) {
            row.add(z.whole(what));
        }
        row.add(z.sums());
        for (int place = 0; place < z.whole(4); place++) {
            for (int what = 0; what <= 3; what++) {
                row.add(z.at(place, what));
            }
        }
        for (int part = 0; part <= 5; part++) {
            for (int what = 0; what <= 2; what++) {
                row.add(z.part(part, what));
            }
        }
        for (int what = 1; what <= 5; what++) {
            row.add(z.set((1 << z.whole(4)) - 1, what));
        }
        for (int index = 0; index < Answers.MOST_BLOCKS && z.block(index) != ZeroParts.NONE; index++) {
            row.add(z.block(index));
        }
        row.add(z.freeElement());
        row.add(z.unlikeBlocks());
        row.add(Double.doubleToLongBits(z.cross()));
        return row.hash();
    }

    private static void digest() {
        Check.test(DIGEST, "Returns a hash of the state. ", () -> {
            State state = State.of(6, 1, 1, 5, 2).laid(0, 3, 5);
            Answers.changesNothing(state, "digest()", z -> z.digest());
            Check.same("the same state", state.byCalls().digest(), state.byCalls().digest());
        });
        Check.test(DIGEST, "It starts with h = 43602. ", () -> {
            long[] ofNew = {
                0, 6, 1, 6, 6, 0, 0, 1, 0, 0, 0, 0, 0, 0, 0, 0,
                0, 0, 0, 0, 0, 0, 0, 0, 0, 0, 0, 0, 0, 0, 0, 0, 0, 0, 0, 0, 1, 1, 0, 1, 0, 0};
            Check.same("digest of a new object", new ZeroParts().digest(), hash(ofNew));
        });
        Check.test(DIGEST, "For each of the following values v, in this order, h becomes 31 * h + v (long arithmetic, overflow wraps).", () -> {
            State[] states = {
                State.of(1, 1), State.times(1, 1, 0, 10), State.times(5, 1, 1, 10), State.times(5, 6, 29, 10), State.times(5, 2, 6, 10),
                State.of(6, 6, 1, 2, 3, 6, 12, 18).laid(1, 2, 3, 4, 5),
                State.of(6, 1, 1, 5, 2).laid(0, 3, 5)};
            for (State each : states) {
                Check.same("digest", each.byCalls().digest(), digestOf(each.byCalls(), Math.min(4, each.calls())));
                Check.same("digest after a run", each.byRun().digest(), digestOf(each.byRun(), 1));
            }
        });
    }

    private static void digestOfEachValue() {
        Check.test(DIGEST, "the number of states on the undo stack; ", () -> {
            ZeroParts z = new ZeroParts();
            for (int calls = 0; calls <= 6; calls++) {
                Check.same("digest after " + calls + " calls", z.digest(), digestOf(z, Math.min(4, calls)));
                z.begin(6, 1);
            }
        });
        Check.test(DIGEST, "whole() of 0 to 13; ", () -> {
            ZeroParts text = new ZeroParts();
            for (int length = 0; length < 150; length++) {
                text.type(' ');
            }
            Check.same("digest of a full text", text.digest(), digestOf(text, 0));
        });
        Check.test(DIGEST, "sums(); for each place at() of 0 to 3; for each part part() of 0 to 2; set() of 1 to 5 of the set of all places; ", () -> {
            ZeroParts row = State.of(6, 6).byCalls();
            int[] elements = {1, 5, 2, 8, 35, 6, 30, 3, 0, 7};
            for (int k = 0; k < elements.length; k++) {
                row.add(elements[k]);
                row.lay(k, 5 - k % 6);
                Check.same("digest of the first " + (k + 1), row.digest(), digestOf(row, Math.min(4, 2 * k + 3)));
            }
        });
        Check.test(DIGEST, "each block, from the one with the least number on; freeElement(); unlikeBlocks(); ", () -> {
            Check.same("digest with the most blocks", State.times(5, 1, 1, 10).byRun().digest(), digestOf(State.times(5, 1, 1, 10).byRun(), 1));
            Check.same("digest without blocks", State.of(6, 1, 5, 5).byRun().digest(), digestOf(State.of(6, 1, 5, 5).byRun(), 1));
            Check.same("digest of two unlike blocks", State.of(6, 1, 1, 5, 0).byRun().digest(), digestOf(State.of(6, 1, 1, 5, 0).byRun(), 1));
        });
        Check.test(DIGEST, "Double.doubleToLongBits() of cross().", () -> {
            for (int a = 1; a <= 6; a++) {
                for (int b = 1; b <= 6; b++) {
                    ZeroParts each = State.of(a, b).byRun();
                    for (int k = 0; k < 10; k++) {
                        each.add((7 * k + a * b - 1) % (a * b));
                        Check.same("digest in " + a + " and " + b, each.digest(), digestOf(each, Math.min(4, k + 2)));
                    }
                }
            }
        });
        Check.test(DIGEST, "Returns the hash.", () -> {
            Check.isTrue("digests of other elements differ", State.of(6, 1, 1).byRun().digest() != State.of(6, 1, 5).byRun().digest());
            Check.isTrue("digests of other parts differ", State.of(6, 1, 1).byRun().digest() != State.of(6, 1, 1).laid(1).byRun().digest());
        });
    }
}
