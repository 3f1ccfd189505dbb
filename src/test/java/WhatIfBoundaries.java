/** Promises 17 to 22: the calls under 'what if, which changes nothing'. */
final class WhatIfBoundaries {
    private static final String REASON = "Promise 17: reason";
    private static final String FREE_ELEMENT = "Promise 18: freeElement";
    private static final String FREE_FOR = "Promise 19: freeFor";
    private static final String BLOCKS_WITH = "Promise 20: blocksWith";
    private static final String ALIKE = "Promise 21: alike";
    private static final String UNLIKE = "Promise 22: unlikeBlocks";

    /** 5 times (1, 0) and 5 times (0, 1): free, and full in both senses. */
    private static final State FREE_TEN = State.of(6, 6, 1, 1, 1, 1, 1, 6, 6, 6, 6, 6);
    /** Ten times (1, 1) of the order 30: free, and without room. */
    private static final State ORDER_30 = State.times(5, 6, 6, 10);

    private WhatIfBoundaries() {
    }

    static void all() {
        reason();
        reasonRange();
        freeElement();
        freeElementNone();
        freeFor();
        blocksWith();
        blocksWithValues();
        blocksWithRange();
        alike();
        alikeRange();
        unlikeBlocks();
    }

    private static void reason() {
        State state = State.of(6, 1, 1, 5, 2, 4, 3, 3, 3, 0).laid(0, 0, 1, 1, 2, 3, 3, 4);
        Check.test(REASON, "Tells why a part is not good.", () -> {
            for (int part = 0; part <= 5; part++) {
                int each = part;
                ZeroParts z = state.byCalls();
                Check.same("reason of a good part " + part, z.reason(part) == 0 ? 1 : 0, z.part(part, 2));
                Answers.changesNothing(state, "reason(" + part + ")", some -> some.reason(each));
            }
        });
        Check.test(REASON, "Returns 0 it is good; ", () -> {
            Check.same("1 5", state.byCalls().reason(0), 0);
            Check.same("2 4", state.byCalls().reason(1), 0);
            Check.same("0", state.byCalls().reason(4), 0);
            Check.same("ten places", State.times(5, 2, 6, 10).laid(5, 5, 5, 5, 5, 5, 5, 5, 5, 5).byCalls().reason(5), 0);
        });
        Check.test(REASON, "otherwise the first of these that applies: ", () -> {
            ZeroParts z = state.byCalls();
            z.lay(4, 3);
            Check.same("3 3 3 does not sum to nothing, and contains a smaller block", z.reason(3), 2);
            Check.same("an empty part does sum to nothing", z.reason(2), 1);
            Check.same("1 0 does not sum to nothing, and contains a smaller block", State.of(6, 1, 1, 0).byCalls().reason(0), 2);
        });
        Check.test(REASON, "1 it is empty; ", () -> {
            for (int part = 0; part <= 5; part++) {
                Check.same("part of nothing", new ZeroParts().reason(part), 1);
            }
            Check.same("part 5", state.byCalls().reason(5), 1);
        });
        Check.test(REASON, "2 it does not sum to nothing; ", () -> {
            Check.same("1", State.of(6, 1, 1).byCalls().reason(0), 2);
            Check.same("(0, 1)", State.of(6, 6, 6).laid(5).byCalls().reason(5), 2);
        });
        Check.test(REASON, "3 it contains a smaller block.", () -> {
            Check.same("1 5 2 4", State.of(6, 1, 1, 5, 2, 4).byCalls().reason(0), 3);
            Check.same("0 0", State.of(6, 1, 0, 0).byCalls().reason(0), 3);
            Check.same("1 5 0, the smaller block of one place", State.of(6, 1, 1, 5, 0).laid(5, 5, 5).byCalls().reason(5), 3);
        });
    }

    private static void reasonRange() {
        State state = State.of(6, 1, 1, 5, 2).laid(5, 5);
        Check.test(REASON, "- `part`: 0 to 5", () -> {
            Check.same("reason(0)", state.byCalls().reason(0), 2);
            Check.same("reason(5)", state.byCalls().reason(5), 0);
        });
        Check.test(REASON, "Throws `IllegalArgumentException` if part is out of range", () -> {
            for (int wrong : Answers.outside(0, 5)) {
                Answers.refusesArgument(state, "reason(" + wrong + ")", z -> z.reason(wrong));
                Answers.refusesArgument(State.of(6, 1), "reason(" + wrong + ") of nothing", z -> z.reason(wrong));
            }
        });
    }

    /** The lowest element by the words: each is appended to another object's sequence, if there is room. */
    private static int lowestByAdding(State state) {
        ZeroParts z = state.byCalls();
        for (int e = 0; e < z.whole(2); e++) {
            z.add(e);
            boolean isFree = z.whole(6) == 1;
            z.undo();
            if (isFree) {
                return e;
            }
        }
        return -1;
    }

    private static void freeElement() {
        Check.test(FREE_ELEMENT, "Returns the lowest element that could be appended so that the sequence would be free (whether there is room or not).", () -> {
            Check.same("for nothing, 0 cannot", new ZeroParts().freeElement(), 1);
            Check.same("for nothing of 1 and 6", State.of(1, 6).byCalls().freeElement(), 1);
            Check.same("for 5", State.of(6, 1, 5).byCalls().freeElement(), 2);
            Check.same("for 5 5", State.of(6, 1, 5, 5).byCalls().freeElement(), 3);
            Check.same("for 5 5 5", State.of(6, 1, 5, 5, 5).byCalls().freeElement(), 4);
            Check.same("for 5 5 5 5, the last", State.of(6, 1, 5, 5, 5, 5).byCalls().freeElement(), 5);
            Check.same("for the last of 36", State.of(6, 6, 5, 5, 5, 5, 5, 30, 30, 30, 30).byCalls().freeElement(), 30);
            Check.same("for 35, where 7 cannot", State.of(6, 6, 35).byCalls().freeElement(), 1);
            int[][] rows = {{}, {5}, {1, 1}, {1, 5}, {7, 7, 7}, {1, 2, 3}, {29, 29, 5}, {11, 10}, {3, 18}, {35, 35, 35, 35, 35}};
            for (int[] row : rows) {
                State state = State.of(6, 6, row);
                Check.same("by adding to " + row.length, state.byCalls().freeElement(), lowestByAdding(state));
            }
            Check.same("without room", ORDER_30.byCalls().freeElement(), 1);
            // The sums are the 20-fold to the 29-fold of (1, 1); (1, 0), its 6-fold, would reach the 30-fold.
            Check.same("without room, where 1 cannot", State.times(5, 6, 29, 10).byCalls().freeElement(), 2);
            Answers.changesNothing(ORDER_30, "freeElement()", z -> z.freeElement());
            Answers.changesNothing(State.of(6, 1, 5), "freeElement() for 5", z -> z.freeElement());
        });
        Check.test(FREE_ELEMENT, "Returns the element; ", () -> {
            ZeroParts z = State.of(6, 1, 5, 4).byCalls();
            int element = z.freeElement();
            z.add(element);
            Check.same("free once it is appended", z.whole(6), 1);
        });
    }

    private static void freeElementNone() {
        Check.test(FREE_ELEMENT, "NONE if there is none.", () -> {
            Check.same("the only element is nothing", State.of(1, 1).byCalls().freeElement(), -1);
            Check.same("the only one of a full sequence", State.times(1, 1, 0, 10).byCalls().freeElement(), -1);
            Check.same("five of six", State.times(6, 1, 1, 5).byCalls().freeElement(), -1);
            Check.same("1 of 2", State.of(2, 1, 1).byCalls().freeElement(), -1);
            Check.same("ten of 36", FREE_TEN.byCalls().freeElement(), -1);
            // No element makes what is not free free.
            Check.same("0", State.of(6, 1, 0).byCalls().freeElement(), -1);
            Check.same("3 3", State.of(6, 1, 3, 3).byCalls().freeElement(), -1);
            Check.same("1 35 among others", State.of(6, 6, 1, 14, 22, 5).byCalls().freeElement(), -1);
            Check.same("0 of a full sequence", State.of(6, 6, 0, 1, 1, 1, 1, 1, 1, 1, 1, 1).byCalls().freeElement(), -1);
            Answers.changesNothing(State.of(6, 1, 3, 3), "freeElement() of what is not free", z -> z.freeElement());
        });
    }

    /** By the words: elements are appended one after the other, as long as there is room. */
    private static int countByAdding(State state) {
        ZeroParts z = state.byCalls();
        int count = 0;
        while (z.freeElement() != ZeroParts.NONE && z.whole(4) < 10) {
            z.add(z.freeElement());
            count++;
        }
        return count;
    }

    private static void freeFor() {
        Check.test(FREE_FOR, "Tells how many elements could be appended, one after the other, each by freeElement(), until there is none (whether there is room or not).", () -> {
            for (int a = 1; a <= 6; a++) {
                for (int b = 1; b <= 6; b++) {
                    State state = State.of(a, b);
                    Check.same("for nothing of " + a + " and " + b, state.byCalls().freeFor(), countByAdding(state));
                    Check.same("for nothing of " + a + " and " + b, state.byCalls().freeFor(), a - 1 + b - 1);
                }
            }
            Check.same("for 3", State.of(6, 1, 3).byCalls().freeFor(), 2);
            Check.same("for 5", State.of(6, 1, 5).byCalls().freeFor(), countByAdding(State.of(6, 1, 5)));
            Check.same("one more", State.times(6, 1, 5, 4).byCalls().freeFor(), 1);
            // From the 1-fold to the 10-fold of (1, 1): three times (1, 0), its 6-fold, then once its 1-fold.
            Check.same("four without room", ORDER_30.byCalls().freeFor(), 4);
            // (2, 0), its 12-fold, twice, then (2, 5), its 17-fold.
            Check.same("three without room", State.times(5, 6, 29, 10).byCalls().freeFor(), 3);
            Answers.changesNothing(ORDER_30, "freeFor()", z -> z.freeFor());
            Answers.changesNothing(State.of(6, 6), "freeFor() of nothing", z -> z.freeFor());
        });
        Check.test(FREE_FOR, "Returns the number.", () -> {
            Check.same("none for five of six", State.times(6, 1, 1, 5).byCalls().freeFor(), 0);
            Check.same("none for ten of 36", FREE_TEN.byCalls().freeFor(), 0);
            Check.same("none in the least group", State.of(1, 1).byCalls().freeFor(), 0);
            Check.same("none for 0", State.of(6, 1, 0).byCalls().freeFor(), 0);
            Check.same("none for 3 3", State.of(6, 1, 3, 3).byCalls().freeFor(), 0);
            Check.same("ten for nothing", State.of(6, 6).byCalls().freeFor(), 10);
            Check.same("five at first", new ZeroParts().freeFor(), 5);
        });
    }

    private static void blocksWith() {
        State pairs = State.of(6, 1, 1, 5, 1, 5);
        Check.test(BLOCKS_WITH, "Counts the blocks of a number of places that there would be if an element was appended, ", () -> {
            Check.same("1 and a place of 5", pairs.byCalls().blocksWith(1, 2), 2);
            Check.same("4 and two places of 1", pairs.byCalls().blocksWith(4, 3), 1);
            Check.same("3, which has no other", pairs.byCalls().blocksWith(3, 3), 0);
            State three = State.of(6, 1, 1, 1, 2);
            Check.same("5 and a place of 1", three.byCalls().blocksWith(5, 2), 2);
            Check.same("1, which has no 5", three.byCalls().blocksWith(1, 2), 0);
            Check.same("4 and the place of 2", three.byCalls().blocksWith(4, 2), 1);
            Check.same("4 and both places of 1", three.byCalls().blocksWith(4, 3), 1);
            Check.same("2 with all", three.byCalls().blocksWith(2, 4), 1);
        });
        Check.test(BLOCKS_WITH, "and that contain its place (whether there is room or not).", () -> {
            Check.same("blocks of two places without 0", pairs.byCalls().blocksWith(0, 2), 0);
            Check.same("0 with the blocks 1 5 and 1 5, which are smaller", pairs.byCalls().blocksWith(0, 5), 0);
            Check.same("5 and 1 with the smaller block 1 5", pairs.byCalls().blocksWith(5, 4), 0);
            Check.same("the block 0 alone", pairs.byCalls().blocksWith(0, 1), 1);
            Check.same("of three zeros, only the new one", State.of(6, 1, 0, 0).byCalls().blocksWith(0, 1), 1);
            Check.same("(1, 1) with all ten", FREE_TEN.byCalls().blocksWith(7, 11), 1);
            Check.same("(1, 1) with nine", FREE_TEN.byCalls().blocksWith(7, 10), 0);
            Check.same("(1, 0) with five of ten", FREE_TEN.byCalls().blocksWith(1, 6), 1);
            Check.same("a pair with each of ten", State.times(2, 1, 1, 10).byCalls().blocksWith(1, 2), 10);
            Check.same("0 without room", State.times(5, 1, 1, 10).byCalls().blocksWith(0, 1), 1);
            Check.same("four of ten", State.times(5, 1, 1, 10).byCalls().blocksWith(1, 5), 210);
            Answers.changesNothing(pairs, "blocksWith(1, 2)", each -> each.blocksWith(1, 2));
            Answers.changesNothing(FREE_TEN, "blocksWith(7, 11)", each -> each.blocksWith(7, 11));
        });
    }

    private static void blocksWithValues() {
        Check.test(BLOCKS_WITH, "Returns the number.", () -> {
            State[] states = {State.of(6, 1), State.of(6, 1, 1, 5, 2, 4, 3, 0), State.of(3, 3, 1, 3, 4, 8, 2, 6, 5), State.of(4, 2, 5, 3, 4, 4, 1)};
            for (State state : states) {
                int count = state.byCalls().whole(2);
                for (int e = 0; e < count; e++) {
                    ZeroParts longer = state.byCalls();
                    longer.add(e);
                    int[] due = new int[12];
                    int place = longer.whole(4) - 1;
                    for (int index = 0; index < Answers.MOST_BLOCKS && longer.block(index) != ZeroParts.NONE; index++) {
                        due[Integer.bitCount(longer.block(index))] += longer.block(index) >> place & 1;
                    }
                    for (int places = 1; places <= 11; places++) {
                        Check.same("blocksWith(" + e + ", " + places + ")", state.byCalls().blocksWith(e, places), due[places]);
                    }
                }
            }
        });
    }

    private static void blocksWithRange() {
        State state = State.of(5, 2, 6, 6, 1).laid(0, 3);
        Check.test(BLOCKS_WITH, "- `element`: number of an element", () -> {
            Check.same("the first element", state.byCalls().blocksWith(0, 1), 1);
            // 9 = (4, 1) and 6 = (1, 1)
            Check.same("the last element", state.byCalls().blocksWith(9, 2), 2);
        });
        Check.test(BLOCKS_WITH, "- `places`: 1 to 11", () -> {
            for (int places = 1; places <= 11; places++) {
                Check.same("0 in " + places, state.byCalls().blocksWith(0, places), places == 1 ? 1 : 0);
                Check.same("(1, 1) in " + places, FREE_TEN.byCalls().blocksWith(7, places), places == 11 ? 1 : 0);
                Check.same("0 in " + places + " of nothing", new ZeroParts().blocksWith(0, places), places == 1 ? 1 : 0);
            }
        });
        Check.test(BLOCKS_WITH, "Throws `IndexOutOfBoundsException` if there is no such element", () -> {
            for (int wrong : Answers.outside(0, 9)) {
                Answers.refusesIndex(state, "blocksWith(" + wrong + ", 1)", each -> each.blocksWith(wrong, 1));
                Answers.refusesIndex(state, "blocksWith(" + wrong + ", 11)", each -> each.blocksWith(wrong, 11));
            }
            Answers.refusesIndex(State.of(1, 1), "blocksWith(1, 1) of 1", each -> each.blocksWith(1, 1));
        });
        Check.test(BLOCKS_WITH, "Throws `IllegalArgumentException` if places is out of range", () -> {
            for (int wrong : Answers.outside(1, 11)) {
                Answers.refusesArgument(state, "blocksWith(0, " + wrong + ")", each -> each.blocksWith(0, wrong));
                Answers.refusesArgument(FREE_TEN, "blocksWith(35, " + wrong + ") of ten", each -> each.blocksWith(35, wrong));
            }
        });
    }

    private static void alike() {
        State state = State.of(6, 1, 1, 2, 1, 2, 3, 1);
        Check.test(ALIKE, "Tells whether two sets of places have the same elements, each as often.", () -> {
            Check.same("1 2 and 1 2", state.byCalls().alike(3, 12), 1);
            Check.same("1 2 and 2 1", state.byCalls().alike(3, 6), 1);
            Check.same("1 1 2 and 1 2 2", state.byCalls().alike(7, 11), 0);
            Check.same("1 2 and 1 1 2", state.byCalls().alike(3, 7), 0);
            Check.same("1 1 and 1", state.byCalls().alike(5, 1), 0);
            Check.same("1 1 and 1 1 at other places", state.byCalls().alike(5, 36), 1);
            Check.same("1 2 and 3, of the same sum", state.byCalls().alike(3, 16), 0);
            Check.same("1 and the last 1", state.byCalls().alike(1, 32), 1);
            Check.same("1 and 0", State.of(6, 1, 1, 0).byCalls().alike(1, 2), 0);
            Check.same("0 and no place", State.of(6, 1, 1, 0).byCalls().alike(2, 0), 0);
            Answers.changesNothing(State.of(6, 1, 1, 1), "alike(1, 2)", each -> each.alike(1, 2));
        });
        Check.test(ALIKE, "Returns 1 if they have, otherwise 0.", () -> {
            Check.same("no place and no place", state.byCalls().alike(0, 0), 1);
            Check.same("no place and no place of nothing", new ZeroParts().alike(0, 0), 1);
            Check.same("all and all", state.byCalls().alike(63, 63), 1);
            Check.same("all and no place", state.byCalls().alike(63, 0), 0);
            Check.same("no place and all", state.byCalls().alike(0, 63), 0);
        });
    }

    private static void alikeRange() {
        State three = State.of(6, 1, 1, 1, 1);
        int[] sets = {0, 1, 2, 3, 4, 5, 6, 7};
        Check.test(ALIKE, "- `one`: a set of places", () -> {
            for (int set : sets) {
                Check.same("alike(" + set + ", 1)", three.byCalls().alike(set, 1), Integer.bitCount(set) == 1 ? 1 : 0);
            }
            Check.same("alike(512, 1) of ten", State.times(6, 1, 1, 10).byCalls().alike(512, 1), 1);
        });
        Check.test(ALIKE, "- `other`: a set of places", () -> {
            for (int set : sets) {
                Check.same("alike(1, " + set + ")", three.byCalls().alike(1, set), Integer.bitCount(set) == 1 ? 1 : 0);
            }
            Check.same("alike(1, 512) of ten", State.times(6, 1, 1, 10).byCalls().alike(1, 512), 1);
        });
        Check.test(ALIKE, "Throws `IllegalArgumentException` if a set has a place that there is not, or is negative", () -> {
            int[] wrongs = {8, 9, 15, 16, 1024, 1 << 30, Integer.MAX_VALUE, -1, -8, Integer.MIN_VALUE, Integer.MIN_VALUE + 1};
            for (int wrong : wrongs) {
                Answers.refusesArgument(three, "alike(" + wrong + ", 1)", z -> z.alike(wrong, 1));
                Answers.refusesArgument(three, "alike(1, " + wrong + ")", z -> z.alike(1, wrong));
                Answers.refusesArgument(three, "alike of " + wrong + " twice", z -> z.alike(wrong, wrong));
            }
        });
    }

    private static void unlikeBlocks() {
        Check.test(UNLIKE, "Counts the unlike blocks: blocks with the same elements, each as often, count once.", () -> {
            // 1 5, 1 1 4, 5 5 2, 2 4, 3 3, 1 2 3 and 5 4 3
            State many = State.of(6, 1, 1, 1, 5, 5, 2, 4, 3, 3);
            Check.same("of 1 1 5 5 2 4 3 3", many.byCalls().unlikeBlocks(), 7);
            Check.same("1 1 4 and 1 5", State.of(6, 1, 1, 1, 4, 5).byCalls().unlikeBlocks(), 2);
            Check.same("1 2 and 1 1 1 and 2 2 2", State.of(3, 1, 1, 2, 1, 2, 1, 2).byCalls().unlikeBlocks(), 3);
            // 1 1 4 and 2 2 2 have as many places and the same sum.
            Check.same("1 1 4 and 2 4, 2 2 2 and 1 1 2 2", State.of(6, 1, 1, 1, 4, 2, 2, 2).byCalls().unlikeBlocks(), 4);
            Answers.changesNothing(many, "unlikeBlocks()", z -> z.unlikeBlocks());
        });
        Check.test(UNLIKE, "Returns the number.", () -> {
            Check.same("of nothing", new ZeroParts().unlikeBlocks(), 0);
            Check.same("of a free sequence", FREE_TEN.byCalls().unlikeBlocks(), 0);
            Check.same("of 0", State.of(6, 1, 0).byCalls().unlikeBlocks(), 1);
            Check.same("of ten zeros", State.times(6, 6, 0, 10).byCalls().unlikeBlocks(), 1);
            Check.same("of 252 alike blocks", State.times(5, 1, 1, 10).byCalls().unlikeBlocks(), 1);
            Check.same("of 45 alike pairs", State.times(2, 1, 1, 10).byCalls().unlikeBlocks(), 1);
            Check.same("of one block of ten places", State.times(5, 2, 6, 10).byCalls().unlikeBlocks(), 1);
        });
    }
}
