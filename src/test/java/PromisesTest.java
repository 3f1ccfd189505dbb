/** Each promise of the document, with answers that were worked out by hand. */
public final class PromisesTest {
    private static final int LEAST = Integer.MIN_VALUE;
    private static final int MOST = Integer.MAX_VALUE;

    public static void main(String[] args) {
        promise1NewObject();
        promise2Begin();
        promise2BeginWithSameElements();
        promise3Add();
        promise4RemoveAt();
        promise5Lay();
        promise6LaySplit();
        promise6LaySplitLimits();
        promise7Sum();
        promise8Element();
        promise9Bound();
        promise10At();
        promise11Set();
        promise12Block();
        promise13Part();
        promise14Whole();
        promise15Sums();
        promise16Cross();
        promise17Reason();
        promise18FreeElement();
        promise19FreeFor();
        promise20BlocksWith();
        promise21Alike();
        promise22UnlikeBlocks();
        promise23Type();
        promise24ClearCommands();
        promise25RunCommands();
        promise25Faults();
        promise26Undo();
        promise27Digest();
        Check.finish();
    }

    private static void same(String what, long got, long want) {
        Check.same(what, got, want);
    }

    private static ZeroParts with(int a, int b, int... elements) {
        ZeroParts z = new ZeroParts();
        z.begin(a, b);
        for (int e : elements) {
            z.add(e);
        }
        return z;
    }

    private static void type(ZeroParts z, String text) {
        z.clearCommands();
        for (int k = 0; k < text.length(); k++) {
            z.type(text.charAt(k));
        }
    }

    private static void runs(ZeroParts z, String text, int want) {
        type(z, text);
        same("run of '" + text + "'", z.runCommands(), want);
        same("length after the run of '" + text + "'", z.whole(13), text.length());
    }

    private static void elements(ZeroParts z, String what, int... want) {
        same(what + ": size", z.whole(4), want.length);
        for (int p = 0; p < want.length && p < z.whole(4); p++) {
            same(what + ": element " + p, z.at(p, 0), want[p]);
        }
    }

    private static void parts(ZeroParts z, String what, int... want) {
        same(what + ": size", z.whole(4), want.length);
        for (int p = 0; p < want.length && p < z.whole(4); p++) {
            same(what + ": part of place " + p, z.at(p, 1), want[p]);
        }
    }

    private static void wholes(ZeroParts z, String what, int... want) {
        for (int k = 0; k < want.length; k++) {
            same(what + ": whole(" + k + ")", z.whole(k), want[k]);
        }
    }

    private static void promise1NewObject() {
        ZeroParts z = new ZeroParts();
        same("NONE", ZeroParts.NONE, -1);
        wholes(z, "new", 6, 1, 6, 6, 0, 0, 1, 0, 0, 0, 0, 0, 0, 0);
        Check.failsOnState(z, "undo() of a new object", () -> z.undo());
        long h = 43602L;
        int[] values = {
            0, 6, 1, 6, 6, 0, 0, 1, 0, 0, 0, 0, 0, 0, 0, 0,
            0, 0, 0, 0, 0, 0, 0, 0, 0, 0, 0, 0, 0, 0, 0, 0, 0, 0,
            0, 0, 1, 1, 0, 1, 0, 0};
        for (int v : values) {
            h = 31 * h + v;
        }
        same("digest of a new object", z.digest(), h);
    }

    private static void promise2Begin() {
        ZeroParts z = new ZeroParts();
        z.add(5);
        z.lay(0, 3);
        z.type('a');
        same("begin(3, 4)", z.begin(3, 4), 12);
        wholes(z, "begin(3, 4)", 3, 4, 12, 12, 0, 0, 1, 0, 0, 0, 0, 0, 0, 1);
        same("add(11) in the new group", z.add(11), 0);
        same("part after begin", z.at(0, 1), 0);
        z.undo();
        z.undo();
        wholes(z, "undo of begin", 6, 1, 6, 6, 1, 5);
        same("part after undo of begin", z.at(0, 1), 3);
        same("begin(1, 1)", z.begin(1, 1), 1);
        same("begin(6, 6)", z.begin(6, 6), 36);
        int[][] wrong = {{0, 1}, {7, 1}, {1, 0}, {1, 7}, {-1, 2}, {2, -1}, {LEAST, 1}, {1, MOST}, {0, 0}};
        for (int[] pair : wrong) {
            Check.failsOnArgument(z, "begin(" + pair[0] + ", " + pair[1] + ")", () -> z.begin(pair[0], pair[1]));
        }
    }

    /** The same elements in another group, with no question between, are answered anew. */
    private static void promise2BeginWithSameElements() {
        ZeroParts z = with(6, 2, 3, 3);
        same("3 + 3 in 6 and 2", z.set(3, 1), 0);
        z.begin(4, 2);
        z.add(3);
        z.add(3);
        same("3 + 3 in 4 and 2", z.set(3, 1), 2);
        same("block in 4 and 2", z.set(3, 2), 0);
        z.begin(4, 3);
        z.add(4);
        z.add(4);
        same("4 + 4 in 4 and 3", z.set(3, 1), 8);
        z.begin(4, 2);
        z.add(4);
        z.add(4);
        same("4 + 4 in 4 and 2", z.set(3, 1), 0);
        same("block of 4 4 in 4 and 2", z.set(3, 2), 1);
    }

    private static void promise3Add() {
        ZeroParts z = with(2, 3);
        for (int k = 0; k < 10; k++) {
            same("add number " + k, z.add(k % 6), k);
        }
        Check.failsOnState(z, "add to a full sequence", () -> z.add(0));
        Check.failsOnIndex(z, "add(6) to a full sequence", () -> z.add(6));
        Check.failsOnIndex(z, "add(-1)", () -> z.add(-1));
        Check.failsOnIndex(z, "add of the greatest int", () -> z.add(MOST));
        elements(z, "ten elements", 0, 1, 2, 3, 4, 5, 0, 1, 2, 3);
        z.lay(9, 5);
        z.removeAt(9);
        same("add after a removal", z.add(5), 9);
        same("part of a place that was laid before", z.at(9, 1), 0);
        z.undo();
        same("undo of add", z.whole(4), 9);
        ZeroParts other = with(1, 1);
        same("add(0) in the least group", other.add(0), 0);
        Check.failsOnIndex(other, "add(1) in the least group", () -> other.add(1));
    }

    private static void promise4RemoveAt() {
        ZeroParts z = with(6, 1, 1, 2, 3, 4);
        for (int p = 0; p < 4; p++) {
            z.lay(p, p + 1);
        }
        same("removeAt(1)", z.removeAt(1), 2);
        elements(z, "removeAt(1)", 1, 3, 4);
        parts(z, "removeAt(1)", 1, 3, 4);
        same("sum after removeAt(1)", z.whole(5), 2);
        Check.failsOnIndex(z, "removeAt(3)", () -> z.removeAt(3));
        Check.failsOnIndex(z, "removeAt(-1)", () -> z.removeAt(-1));
        Check.failsOnIndex(z, "removeAt of the least int", () -> z.removeAt(LEAST));
        same("removeAt of the last", z.removeAt(2), 4);
        same("removeAt of the first", z.removeAt(0), 1);
        same("removeAt of the only", z.removeAt(0), 3);
        same("size after all removals", z.whole(4), 0);
        Check.failsOnIndex(z, "removeAt(0) of an empty sequence", () -> z.removeAt(0));
        ZeroParts other = with(6, 1, 1, 2, 3);
        same("sum of 1 2 3", other.whole(5), 0);
        other.removeAt(0);
        same("sum of 2 3", other.whole(5), 5);
        z.undo();
        z.undo();
        z.undo();
        z.undo();
        elements(z, "undo of removeAt", 1, 2, 3, 4);
        parts(z, "undo of removeAt", 1, 2, 3, 4);
    }

    private static void promise5Lay() {
        ZeroParts z = with(6, 1, 1, 5);
        same("lay(1, 5)", z.lay(1, 5), 0);
        same("lay(1, 2)", z.lay(1, 2), 5);
        same("lay(1, 2) again", z.lay(1, 2), 2);
        parts(z, "lay", 0, 2);
        Check.failsOnArgument(z, "lay(0, 6)", () -> z.lay(0, 6));
        Check.failsOnArgument(z, "lay(0, -1)", () -> z.lay(0, -1));
        Check.failsOnIndex(z, "lay(2, 0)", () -> z.lay(2, 0));
        Check.failsOnIndex(z, "lay(-1, 0)", () -> z.lay(-1, 0));
        Check.failsOnIndex(z, "lay(2, 6)", () -> z.lay(2, 6));
        same("undo of a lay that changed nothing", z.undo(), 3);
        parts(z, "undo of a lay that changed nothing", 0, 2);
        z.undo();
        parts(z, "undo of lay", 0, 5);
    }

    private static void promise6LaySplit() {
        // The least block at place 0 is {0, 1, 2}, but only {0, 3} leads to three blocks.
        ZeroParts z = with(6, 1, 3, 1, 2, 3, 5, 4);
        same("set(7, 2)", z.set(7, 2), 1);
        for (int p = 0; p < 6; p++) {
            z.lay(p, 5);
        }
        same("laySplit of 3 1 2 3 5 4", z.laySplit(), 3);
        parts(z, "laySplit of 3 1 2 3 5 4", 0, 1, 2, 0, 1, 2);
        z.undo();
        parts(z, "undo of laySplit", 5, 5, 5, 5, 5, 5);
        ZeroParts twins = with(6, 1, 1, 1, 5, 5);
        same("laySplit of 1 1 5 5", twins.laySplit(), 2);
        parts(twins, "laySplit of 1 1 5 5", 0, 1, 0, 1);
        ZeroParts fours = with(3, 1, 1, 1, 2, 1, 2, 1, 1);
        same("laySplit of 1 1 2 1 2 1 1", fours.laySplit(), 3);
        parts(fours, "laySplit of 1 1 2 1 2 1 1", 0, 1, 0, 2, 1, 2, 2);
        // {1, 2} has a lower number than {0, 3}, but not the place 0.
        ZeroParts nested = with(6, 1, 1, 2, 4, 5);
        same("laySplit of 1 2 4 5", nested.laySplit(), 2);
        parts(nested, "laySplit of 1 2 4 5", 0, 1, 1, 0);
        ZeroParts one = with(6, 1, 1, 1, 1, 1, 1, 1);
        same("laySplit of a block", one.laySplit(), 1);
        same("part 0 of a block", one.part(0, 0), 63);
    }

    private static void promise6LaySplitLimits() {
        ZeroParts odd = with(6, 1, 1, 2);
        Check.failsOnState(odd, "laySplit of what sums to 3", () -> odd.laySplit());
        ZeroParts z = with(2, 1, 0, 0, 0, 0, 0, 0);
        same("laySplit of six zeros", z.laySplit(), 6);
        parts(z, "laySplit of six zeros", 0, 1, 2, 3, 4, 5);
        z.add(0);
        Check.failsOnState(z, "laySplit of seven zeros", () -> z.laySplit());
        z.removeAt(6);
        z.add(1);
        Check.failsOnState(z, "laySplit of six zeros and 1", () -> z.laySplit());
        z.add(1);
        Check.failsOnState(z, "laySplit of six zeros and two ones", () -> z.laySplit());
        ZeroParts empty = new ZeroParts();
        same("laySplit of nothing", empty.laySplit(), 0);
        same("undo of laySplit of nothing", empty.undo(), 0);
    }

    private static void promise7Sum() {
        ZeroParts z = with(3, 4);
        same("(2, 1) + (2, 3)", z.sum(5, 11), 1);
        same("(1, 2) + (1, 1)", z.sum(7, 4), 11);
        same("0 + 8", z.sum(0, 8), 8);
        same("(0, 2) + (0, 2)", z.sum(6, 6), 0);
        Check.failsOnIndex(z, "sum(12, 0)", () -> z.sum(12, 0));
        Check.failsOnIndex(z, "sum(0, 12)", () -> z.sum(0, 12));
        Check.failsOnIndex(z, "sum(-1, 0)", () -> z.sum(-1, 0));
        Check.failsOnIndex(z, "sum(0, least int)", () -> z.sum(0, LEAST));
        ZeroParts other = with(4, 3);
        same("(1, 1) + (3, 2)", other.sum(5, 11), 0);
        same("(2, 1) + (3, 0)", other.sum(6, 3), 5);
    }

    private static void promise8Element() {
        ZeroParts z = with(4, 6, 5, 5, 2);
        int[] orders = {1, 4, 2, 4, 6, 12, 6, 12, 3, 12, 6};
        for (int e = 0; e < orders.length; e++) {
            same("order of " + e, z.element(e, 0), orders[e]);
        }
        same("opposite of (1, 1)", z.element(5, 1), 23);
        same("opposite of (0, 2)", z.element(8, 1), 16);
        same("opposite of (3, 0)", z.element(3, 1), 1);
        same("opposite of 0", z.element(0, 1), 0);
        same("how often 5", z.element(5, 2), 2);
        same("how often 2", z.element(2, 2), 1);
        same("how often 3", z.element(3, 2), 0);
        // 5 = (1, 1), 10 = (2, 2), 2 = (2, 0), 7 = (3, 1), 8 = (0, 2)
        for (int e = 0; e < 24; e++) {
            int want = e == 5 || e == 10 || e == 2 || e == 7 || e == 8 ? 1 : 0;
            same("element(" + e + ", 3)", z.element(e, 3), want);
        }
        Check.failsOnIndex(z, "element(24, 0)", () -> z.element(24, 0));
        Check.failsOnIndex(z, "element(-1, 0)", () -> z.element(-1, 0));
        Check.failsOnIndex(z, "element(24, 4)", () -> z.element(24, 4));
        Check.failsOnArgument(z, "element(0, 4)", () -> z.element(0, 4));
        Check.failsOnArgument(z, "element(0, -1)", () -> z.element(0, -1));
        same("0 of an empty sequence", new ZeroParts().element(0, 3), 0);
    }

    private static void promise9Bound() {
        int[][] rows = {{6, 1, 6}, {1, 1, 1}, {4, 6, 13}, {6, 4, 13}, {6, 6, 11}, {5, 6, 30}, {2, 6, 7}, {3, 3, 5}};
        for (int[] row : rows) {
            same("bound of " + row[0] + " and " + row[1], with(row[0], row[1]).bound(), row[2]);
        }
    }

    private static void promise10At() {
        // Blocks of 1 5 2 4 0 in the group of 6: {0, 1}, {2, 3}, {4}, and none of 1 1 4 or 5 5 2.
        ZeroParts z = with(6, 1, 1, 5, 2, 4, 0);
        z.lay(2, 4);
        int[] elements = {1, 5, 2, 4, 0};
        int[] smallest = {2, 2, 2, 2, 1};
        for (int p = 0; p < 5; p++) {
            same("at(" + p + ", 0)", z.at(p, 0), elements[p]);
            same("at(" + p + ", 1)", z.at(p, 1), p == 2 ? 4 : 0);
            same("at(" + p + ", 2)", z.at(p, 2), 1);
            same("at(" + p + ", 3)", z.at(p, 3), smallest[p]);
        }
        z.add(1);
        // Now {0, 5, 3} and {5, 1} are blocks too.
        same("blocks at place 0", z.at(0, 2), 2);
        same("blocks at place 1", z.at(1, 2), 2);
        same("blocks at place 3", z.at(3, 2), 2);
        same("blocks at place 5", z.at(5, 2), 2);
        same("smallest block at place 5", z.at(5, 3), 2);
        z.add(1);
        same("blocks at place 3 with 1 three times", z.at(3, 2), 4);
        Check.failsOnIndex(z, "at(7, 0)", () -> z.at(7, 0));
        Check.failsOnIndex(z, "at(-1, 0)", () -> z.at(-1, 0));
        Check.failsOnIndex(z, "at(7, 4)", () -> z.at(7, 4));
        Check.failsOnArgument(z, "at(0, 4)", () -> z.at(0, 4));
        Check.failsOnArgument(z, "at(0, -1)", () -> z.at(0, -1));
        ZeroParts free = with(6, 1, 1, 1);
        same("blocks at a place without", free.at(1, 2), 0);
        same("smallest block at a place without", free.at(1, 3), 0);
    }

    private static void promise11Set() {
        ZeroParts z = with(3, 1, 1, 1, 2, 1, 2, 0);
        int[][] rows = {
            // set, places, sum, block, lengths, splits, blocks in it
            {0, 0, 0, 0, 1, 1, 0},
            {32, 1, 0, 1, 2, 1, 1},
            {5, 2, 0, 1, 2, 1, 1},
            {11, 3, 0, 1, 2, 1, 1},
            {3, 2, 2, 0, 0, 0, 0},
            {37, 3, 0, 0, 4, 1, 2},
            {7, 3, 1, 0, 0, 0, 2},
            // 1 1 2 2: two splits into pairs
            {23, 4, 0, 0, 4, 2, 4},
            // 1 1 2 1 2: 7 sums to 1, so there is no split, but 6 pairs and 1 1 1
            {31, 5, 1, 0, 0, 0, 7},
        };
        for (int[] row : rows) {
            for (int what = 0; what <= 5; what++) {
                same("set(" + row[0] + ", " + what + ")", z.set(row[0], what), row[what + 1]);
            }
        }
        // 1 1 1 2 2 2: into 1 1 1 and 2 2 2, or in 6 ways into pairs
        ZeroParts triples = with(3, 1, 1, 1, 1, 2, 2, 2);
        same("lengths of 1 1 1 2 2 2", triples.set(63, 3), 12);
        same("splits of 1 1 1 2 2 2", triples.set(63, 4), 7);
        same("blocks of 1 1 1 2 2 2", triples.set(63, 5), 11);
        Check.failsOnArgument(z, "set(64, 0)", () -> z.set(64, 0));
        Check.failsOnArgument(z, "set(-1, 0)", () -> z.set(-1, 0));
        Check.failsOnArgument(z, "set of the least int", () -> z.set(LEAST, 0));
        Check.failsOnArgument(z, "set of the greatest int", () -> z.set(MOST, 0));
        Check.failsOnArgument(z, "set(0, 6)", () -> z.set(0, 6));
        Check.failsOnArgument(z, "set(0, -1)", () -> z.set(0, -1));
        Check.failsOnArgument(new ZeroParts(), "set(1, 0) of nothing", () -> new ZeroParts().set(1, 0));
    }

    private static void promise12Block() {
        ZeroParts z = with(6, 1, 1, 5, 2, 4, 1);
        // {0, 1} 3, {2, 3} 12, {1, 4} 18, {0, 3, 4} 25
        int[] blocks = {3, 12, 18, 25};
        for (int k = 0; k < 4; k++) {
            same("block(" + k + ")", z.block(k), blocks[k]);
        }
        same("block(4)", z.block(4), -1);
        same("block(greatest int)", z.block(MOST), -1);
        Check.failsOnArgument(z, "block(-1)", () -> z.block(-1));
        Check.failsOnArgument(z, "block(least int)", () -> z.block(LEAST));
        z.removeAt(1);
        // 1 2 4 1: {1, 2} 6, {0, 2, 3} 13
        same("block(0) after a removal", z.block(0), 6);
        same("block(1) after a removal", z.block(1), 13);
        same("block(2) after a removal", z.block(2), -1);
        z.undo();
        same("block(0) after undo", z.block(0), 3);
        z.begin(5, 1);
        same("block(0) of nothing", z.block(0), -1);
        z.add(1);
        z.add(0);
        same("block(0) of 1 0", z.block(0), 2);
        z.removeAt(1);
        same("block(0) of 1", z.block(0), -1);
    }

    private static void promise13Part() {
        ZeroParts z = with(6, 1, 1, 2, 5, 4, 3);
        z.lay(0, 2);
        z.lay(2, 2);
        z.lay(4, 5);
        int[][] rows = {{10, 0, 1}, {0, 0, 0}, {5, 0, 1}, {0, 0, 0}, {0, 0, 0}, {16, 3, 0}};
        for (int part = 0; part < 6; part++) {
            for (int what = 0; what < 3; what++) {
                same("part(" + part + ", " + what + ")", z.part(part, what), rows[part][what]);
            }
        }
        Check.failsOnArgument(z, "part(6, 0)", () -> z.part(6, 0));
        Check.failsOnArgument(z, "part(-1, 0)", () -> z.part(-1, 0));
        Check.failsOnArgument(z, "part(0, 3)", () -> z.part(0, 3));
        Check.failsOnArgument(z, "part(0, -1)", () -> z.part(0, -1));
    }

    private static void promise14Whole() {
        ZeroParts z = with(4, 2, 1, 3, 4, 2, 0);
        z.lay(0, 1);
        z.lay(1, 1);
        z.lay(4, 3);
        z.type(' ');
        // 1 = (1, 0), 3 = (3, 0), 4 = (0, 1), 2 = (2, 0); blocks {0, 1} and {4}
        wholes(z, "1 3 4 2 0", 4, 2, 8, 4, 5, 6, 0, 2, 1, 2, 3, 2, 8, 1);
        ZeroParts free = with(2, 3, 1, 2);
        // (1, 0) and (0, 1): sums 1, 2 and 3
        wholes(free, "1 2", 2, 3, 6, 6, 2, 3, 1, 0, 0, 0, 1, 0, 3, 0);
        wholes(with(6, 4), "6 and 4", 6, 4, 24, 12);
        Check.failsOnArgument(z, "whole(14)", () -> z.whole(14));
        Check.failsOnArgument(z, "whole(-1)", () -> z.whole(-1));
        Check.failsOnArgument(z, "whole(least int)", () -> z.whole(LEAST));
    }

    private static void promise15Sums() {
        same("sums of nothing", new ZeroParts().sums(), 0);
        same("sums of 0", with(6, 1, 0).sums(), 1);
        same("sums of 1 3", with(6, 1, 1, 3).sums(), 2 + 8 + 16);
        same("sums of 3 3", with(6, 1, 3, 3).sums(), 1 + 8);
        ZeroParts z = with(6, 6, 35);
        same("sums of the last of 36", z.sums(), 1L << 35);
        z.add(35);
        same("sums of the last of 36 twice", z.sums(), 1L << 35 | 1L << 28);
        ZeroParts all = with(6, 6, 1, 1, 1, 1, 1, 6, 6, 6, 6, 6);
        same("sums of five of both", all.sums(), (1L << 36) - 2);
    }

    private static void sameDouble(String what, double got, double want) {
        same(what, Double.doubleToLongBits(got), Double.doubleToLongBits(want));
    }

    private static void promise16Cross() {
        sameDouble("cross of nothing", new ZeroParts().cross(), 0.0);
        sameDouble("cross of 0 3 2 1", with(6, 1, 0, 3, 2, 1).cross(), 0.0 + 1.0 + 1.0 / 2 + 1.0 / 3 + 1.0 / 6);
        // The order of the places tells in the last bit.
        double rising = 1.0 / 3 + 1.0 / 3 + 1.0 / 6 + 1.0 / 6 + 1.0 / 6 + 1.0;
        double falling = 1.0 + 1.0 / 6 + 1.0 / 6 + 1.0 / 6 + 1.0 / 3 + 1.0 / 3;
        same("both orders are the same double", rising == falling ? 1 : 0, 0);
        sameDouble("cross of 2 2 1 1 1 0", with(6, 1, 2, 2, 1, 1, 1, 0).cross(), rising);
        sameDouble("cross of 0 1 1 1 2 2", with(6, 1, 0, 1, 1, 1, 2, 2).cross(), falling);
        sameDouble("cross of order 30", with(5, 6, 6).cross(), 1.0 / 30);
    }

    private static void promise17Reason() {
        ZeroParts z = with(6, 1, 1, 5, 2, 4, 3, 3, 3);
        z.lay(2, 1);
        z.lay(3, 1);
        z.lay(4, 2);
        z.lay(5, 3);
        z.lay(6, 3);
        same("1 5 is good", z.reason(0), 0);
        same("2 4 is good", z.reason(1), 0);
        same("3 does not sum to nothing", z.reason(2), 2);
        same("3 3 is good", z.reason(3), 0);
        same("part 4 is empty", z.reason(4), 1);
        z.lay(2, 0);
        z.lay(3, 0);
        same("1 5 2 4 contains a smaller block", z.reason(0), 3);
        z.lay(4, 3);
        same("3 3 3 contains a block, but does not sum to nothing", z.reason(3), 2);
        Check.failsOnArgument(z, "reason(6)", () -> z.reason(6));
        Check.failsOnArgument(z, "reason(-1)", () -> z.reason(-1));
    }

    private static void promise18FreeElement() {
        same("free for nothing", new ZeroParts().freeElement(), 1);
        same("free for 5", with(6, 1, 5).freeElement(), 2);
        same("free for 5 4", with(6, 1, 5, 5).freeElement(), 3);
        same("free for 1 of 6", with(6, 1, 1, 1, 1, 1).freeElement(), 1);
        same("free for 1 five times", with(6, 1, 1, 1, 1, 1, 1).freeElement(), -1);
        same("free for 0", with(6, 1, 0).freeElement(), -1);
        same("free for 3 3, which is not free", with(6, 1, 3, 3).freeElement(), -1);
        same("free in the least group", with(1, 1).freeElement(), -1);
        same("free without room", with(5, 6, 6, 6, 6, 6, 6, 6, 6, 6, 6, 6).freeElement(), 1);
        same("free for ten of 36", with(6, 6, 1, 1, 1, 1, 1, 6, 6, 6, 6, 6).freeElement(), -1);
    }

    private static void promise19FreeFor() {
        same("free for nothing", new ZeroParts().freeFor(), 5);
        same("free for 3", with(6, 1, 3).freeFor(), 2);
        same("free for 0", with(6, 1, 0).freeFor(), 0);
        same("free in the least group", with(1, 1).freeFor(), 0);
        same("free in 3 and 3", with(3, 3).freeFor(), 4);
        same("free in 6 and 6", with(6, 6).freeFor(), 10);
        // Ten times (1, 1); (1, 0) is its 6-fold, so three of these lead to its 28-fold, one more to 29
        ZeroParts z = with(5, 6, 6, 6, 6, 6, 6, 6, 6, 6, 6, 6);
        long before = z.digest();
        same("free without room", z.freeFor(), 4);
        same("digest after freeFor", z.digest(), before);
    }

    private static void promise20BlocksWith() {
        ZeroParts z = with(6, 1, 1, 1, 2, 3, 5);
        same("0 alone", z.blocksWith(0, 1), 1);
        same("0 and one more", z.blocksWith(0, 2), 0);
        same("5 and one more", z.blocksWith(5, 2), 2);
        same("1 alone", z.blocksWith(1, 1), 0);
        // A sum of 4 is due from the others: 1 3 in two ways; 1 1 2 and 2 3 5, but not 1 5 ...
        same("2 and one more", z.blocksWith(2, 2), 0);
        same("2 and two more", z.blocksWith(2, 3), 2);
        same("2 and three more", z.blocksWith(2, 4), 2);
        // A sum of 1: of pairs just 2 5.
        same("5 and two more", z.blocksWith(5, 3), 1);
        ZeroParts full = with(6, 6, 1, 1, 1, 1, 1, 6, 6, 6, 6, 6);
        long before = full.digest();
        same("(1, 1) and ten more", full.blocksWith(7, 11), 1);
        same("(1, 1) and nine more", full.blocksWith(7, 10), 0);
        same("(1, 0) and five more", full.blocksWith(1, 6), 1);
        same("(2, 0) and four more", full.blocksWith(2, 5), 5);
        same("digest after blocksWith", full.digest(), before);
        Check.failsOnIndex(z, "blocksWith(6, 1)", () -> z.blocksWith(6, 1));
        Check.failsOnIndex(z, "blocksWith(-1, 1)", () -> z.blocksWith(-1, 1));
        Check.failsOnIndex(z, "blocksWith(6, 0)", () -> z.blocksWith(6, 0));
        Check.failsOnArgument(z, "blocksWith(0, 0)", () -> z.blocksWith(0, 0));
        Check.failsOnArgument(z, "blocksWith(0, 12)", () -> z.blocksWith(0, 12));
        Check.failsOnArgument(z, "blocksWith(0, -1)", () -> z.blocksWith(0, -1));
        same("blocksWith(0, 11)", z.blocksWith(0, 11), 0);
    }

    private static void promise21Alike() {
        ZeroParts z = with(6, 1, 1, 2, 1, 2, 3);
        same("1 2 and 1 2", z.alike(3, 12), 1);
        same("1 1 2 and 1 2 2", z.alike(7, 11), 0);
        same("1 2 and 1 2 1", z.alike(3, 7), 0);
        same("1 and 2", z.alike(1, 2), 0);
        same("1 2 and 3", z.alike(3, 16), 0);
        same("a set and itself", z.alike(31, 31), 1);
        same("nothing and nothing", z.alike(0, 0), 1);
        same("nothing and 1", z.alike(0, 1), 0);
        Check.failsOnArgument(z, "alike(32, 0)", () -> z.alike(32, 0));
        Check.failsOnArgument(z, "alike(0, 32)", () -> z.alike(0, 32));
        Check.failsOnArgument(z, "alike(-1, 0)", () -> z.alike(-1, 0));
        Check.failsOnArgument(z, "alike(0, least int)", () -> z.alike(0, LEAST));
    }

    private static void promise22UnlikeBlocks() {
        same("unlike blocks of nothing", new ZeroParts().unlikeBlocks(), 0);
        same("unlike blocks of zeros", with(6, 1, 0, 0, 0).unlikeBlocks(), 1);
        same("unlike blocks of 1 1 2 2", with(3, 1, 1, 1, 2, 2).unlikeBlocks(), 1);
        same("unlike blocks of 1 2 1 2 1 2", with(3, 1, 1, 2, 1, 2, 1, 2).unlikeBlocks(), 3);
        // 1 5, 1 1 4, 5 5 2, 2 4 and 3 3; 1 2 3 and 5 4 3
        same("unlike blocks of 1 1 5 5 2 4 3 3", with(6, 1, 1, 1, 5, 5, 2, 4, 3, 3).unlikeBlocks(), 7);
    }

    private static void promise23Type() {
        ZeroParts z = new ZeroParts();
        same("type(0)", z.type(0), 1);
        same("type(127)", z.type(127), 2);
        Check.failsOnArgument(z, "type(-1)", () -> z.type(-1));
        Check.failsOnArgument(z, "type(128)", () -> z.type(128));
        for (int length = 3; length <= 150; length++) {
            same("type to length " + length, z.type(' '), length);
        }
        Check.failsOnState(z, "type(32) of a full text", () -> z.type(32));
        Check.failsOnArgument(z, "type(128) of a full text", () -> z.type(128));
        same("length of a full text", z.whole(13), 150);
        Check.failsOnState(z, "undo() after typing", () -> z.undo());
    }

    private static void promise24ClearCommands() {
        ZeroParts z = new ZeroParts();
        same("clear of nothing", z.clearCommands(), 0);
        type(z, "add 1;");
        same("clear of six bytes", z.clearCommands(), 6);
        same("length after clear", z.whole(13), 0);
        same("run after clear", z.runCommands(), 0);
        same("type after clear", z.type('a'), 1);
        same("size after the run", z.whole(4), 0);
        same("clear leaves the undo stack", z.undo(), 0);
    }

    private static void promise25RunCommands() {
        ZeroParts z = new ZeroParts();
        runs(z, "group 4 1;add 1;add 03;  add  2 ; add 2;split;lay 0 5;minus 1;", 8);
        elements(z, "run of eight commands", 1, 2, 2);
        parts(z, "run of eight commands", 5, 1, 1);
        same("undo of a run takes all its commands back", z.undo(), 0);
        wholes(z, "undo of a run", 6, 1, 6, 6, 0);
        same("length after undo", z.whole(13), 62);
        runs(z, "add 1;add 6;add 2;", 1);
        elements(z, "run that stops at add 6", 1);
        runs(z, "minus 0;minus 0;", 1);
        runs(z, "add 3;lay 0 6;", 1);
        runs(z, "lay 1 0;", 0);
        same("a run of no command saves a state", z.undo(), 3);
        runs(z, "split;add 3;", 0);
        runs(z, "add 3;split;", 2);
        same("good parts", z.whole(11), 1);
        runs(z, "group 7 1;", 0);
        runs(z, "group 1 0;", 0);
        runs(z, "group 1 1;add 0;add 0;add 0;add 0;add 0;add 0;split;add 0;split;", 9);
        runs(z, "add 0;add 0;add 0;add 0;", 3);
        same("a full sequence", z.whole(4), 10);
        same("at most 4 states", z.undo(), 3);
        same("seven zeros before", z.whole(4), 7);
        runs(z, "add 99;", 0);
        runs(z, "lay 00 05;lay 6 4;", 2);
        same("part of place 6", z.at(6, 1), 4);
        StringBuilder longest = new StringBuilder("group 1 1;");
        for (int k = 0; k < 10; k++) {
            longest.append("minus 0;add 0;");
        }
        runs(z, longest.toString(), 1);
    }

    private static void faults(String text, int fault) {
        ZeroParts z = with(6, 1, 1);
        type(z, text);
        long before = z.digest();
        same("run of '" + text + "'", z.runCommands(), fault < 0 ? 0 : -10 - fault);
        if (fault >= 0) {
            same("digest after the fault in '" + text + "'", z.digest(), before);
        }
    }

    private static void promise25Faults() {
        faults("", -1);
        faults("   ", -1);
        faults(";", 0);
        faults(" ;", 1);
        faults("1", 0);
        faults("A", 0);
        faults("\t", 0);
        faults("ad", 0);
        faults("  ad", 2);
        faults("ad 1;", 0);
        faults("adds 1;", 0);
        faults("addz 1;", 0);
        faults("bdd 1;", 0);
        faults("adc 1;", 0);
        faults("add`", 3);
        faults("add{", 3);
        faults("add /;", 4);
        faults("add :;", 4);
        faults("add 1/;", 5);
        faults("add 1:;", 5);
        faults("lay 1;x", 5);
        faults("add", 3);
        faults("add;", 3);
        faults("add1;", 3);
        faults("addA", 3);
        faults("add ", 4);
        faults("add ;", 4);
        faults("add x", 4);
        faults("add -1;", 4);
        faults("add 1", 5);
        faults("add 1 ", 6);
        faults("add 1x;", 5);
        faults("add 1 2;", 6);
        faults("add 12", 6);
        faults("add 123;", 6);
        faults("add 000;", 6);
        faults("add 1;a", 6);
        faults("add 1;  split  ; lay 1;", 22);
        faults("lay 0", 5);
        faults("lay 123", 6);
        faults("lay 1 234;", 8);
        faults("lay 1 2 3;", 8);
        faults("lay 1 2", 7);
        faults("lay 1", 5);
        faults("lay 1;", 5);
        faults("group 1 x;", 8);
        faults("minus", 5);
        faults("minus 1 1;", 8);
        faults("split", 5);
        faults("split 1;", 6);
        faults("split1;", 5);
        faults("split;;", 6);
        faults("spli;", 0);
        faults("splits", 0);
        faults("add 1;ADD 1;", 6);
        faults("add 1;minu 1;", 6);
        faults("add 1;begin 1 1;", 6);
    }

    private static void promise26Undo() {
        ZeroParts z = with(6, 1);
        for (int e = 0; e < 6; e++) {
            z.add(e);
        }
        z.type('x');
        for (int left = 3; left >= 0; left--) {
            same("undo to " + left, z.undo(), left);
            same("size with " + left + " left", z.whole(4), left + 2);
        }
        Check.failsOnState(z, "undo() of an empty stack", () -> z.undo());
        elements(z, "after four undos", 0, 1);
        same("text after undo", z.whole(13), 1);
        z.add(5);
        z.lay(2, 1);
        same("undo of lay", z.undo(), 1);
        z.add(4);
        same("undo of the add after it", z.undo(), 1);
        elements(z, "after undo, change and undo", 0, 1, 5);
        same("block(1) after undo", z.block(1), 6);
    }

    private static long digestOf(ZeroParts z, int states) {
        long h = 31 * 43602L + states;
        for (int what = 0; what <= 13; what++) {
            h = 31 * h + z.whole(what);
        }
        h = 31 * h + z.sums();
        for (int place = 0; place < z.whole(4); place++) {
            for (int what = 0; what <= 3; what++) {
                h = 31 * h + z.at(place, what);
            }
        }
        for (int part = 0; part <= 5; part++) {
            for (int what = 0; what <= 2; what++) {
                h = 31 * h + z.part(part, what);
            }
        }
        for (int what = 1; what <= 5; what++) {
            h = 31 * h + z.set((1 << z.whole(4)) - 1, what);
        }
        for (int index = 0; z.block(index) >= 0; index++) {
            h = 31 * h + z.block(index);
        }
        h = 31 * h + z.freeElement();
        h = 31 * h + z.unlikeBlocks();
        return 31 * h + Double.doubleToLongBits(z.cross());
    }

    private static void promise27Digest() {
        ZeroParts z = new ZeroParts();
        same("digest of nothing", z.digest(), digestOf(z, 0));
        int[] row = {1, 1, 5, 2, 0, 3, 3, 4, 2, 1};
        for (int k = 0; k < row.length; k++) {
            z.add(row[k]);
            same("digest of " + (k + 1), z.digest(), digestOf(z, Math.min(4, k + 1)));
        }
        z.type('a');
        same("digest with a text", z.digest(), digestOf(z, 4));
        z.undo();
        same("digest after undo", z.digest(), digestOf(z, 3));
        // Cross numbers of all orders, from 1 / 30 to 10, so that each exponent of a double is met.
        for (int a = 1; a <= 6; a++) {
            for (int b = 1; b <= 6; b++) {
                for (int e = 0; e < a * b; e++) {
                    ZeroParts other = with(a, b, e);
                    same("digest of " + e + " in " + a + " and " + b, other.digest(), digestOf(other, 2));
                }
            }
        }
        ZeroParts ten = with(1, 1, 0, 0, 0, 0, 0, 0, 0, 0, 0, 0);
        same("digest of ten zeros", ten.digest(), digestOf(ten, 4));
    }
}
