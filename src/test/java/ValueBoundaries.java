/** Promises 7 to 16: the calls under 'values of the group' and 'values of the sequence'. */
final class ValueBoundaries {
    private static final String SUM = "Promise 7: sum";
    private static final String ELEMENT = "Promise 8: element";
    private static final String BOUND = "Promise 9: bound";
    private static final String AT = "Promise 10: at";
    private static final String SET = "Promise 11: set";
    private static final String BLOCK = "Promise 12: block";
    private static final String PART = "Promise 13: part";
    private static final String WHOLE = "Promise 14: whole";
    private static final String SUMS = "Promise 15: sums";
    private static final String CROSS = "Promise 16: cross";

    /** 1 2 3 and their like reach each of the 36 elements, nothing too. */
    private static final State ALL_SUMS = State.of(6, 6, 1, 2, 3, 6, 12, 18);
    /** No other sequence of ten has more blocks: each five places are one. */
    private static final State MOST_BLOCKS = State.times(5, 1, 1, 10);

    private ValueBoundaries() {
    }

    static void all() {
        sum();
        element();
        elementValues();
        bound();
        at();
        atValues();
        set();
        setValues();
        block();
        part();
        wholeRange();
        wholeGroup();
        wholeSequence();
        wholeBlocks();
        wholeParts();
        wholeSums();
        sums();
        cross();
    }

    private static void sum() {
        Check.test(SUM, "Returns the sum of two elements.", () -> {
            ZeroParts z = State.of(6, 6).byCalls();
            Check.same("0 + 0", z.sum(0, 0), 0);
            Check.same("35 + 35", z.sum(35, 35), 28);
            Check.same("35 + 7", z.sum(35, 7), 0);
            Check.same("5 + 1 stays in its row", z.sum(5, 1), 0);
            Check.same("30 + 6 stays in its column", z.sum(30, 6), 0);
            Check.same("0 + 0 of 1", State.of(1, 1).byCalls().sum(0, 0), 0);
            Answers.changesNothing(ALL_SUMS, "sum(35, 35)", each -> each.sum(35, 35));
        });
        Check.test(SUM, "- `one`: number of an element", () -> {
            Check.same("sum(29, 0)", State.of(5, 6).byCalls().sum(29, 0), 29);
        });
        Check.test(SUM, "- `other`: number of an element", () -> {
            Check.same("sum(0, 29)", State.of(5, 6).byCalls().sum(0, 29), 29);
        });
        Check.test(SUM, "Returns the number of the sum.", () -> {
            Check.same("(4, 5) + (0, 1)", State.of(5, 6).byCalls().sum(29, 5), 4);
            Check.same("(4, 5) + (1, 0)", State.of(5, 6).byCalls().sum(29, 1), 25);
        });
        Check.test(SUM, "Throws `IndexOutOfBoundsException` if there is no such element", () -> {
            int[][] groups = {{1, 1}, {6, 1}, {1, 6}, {5, 6}, {6, 6}};
            for (int[] group : groups) {
                State state = State.of(group[0], group[1], 0);
                int last = group[0] * group[1] - 1;
                for (int wrong : Answers.outside(0, last)) {
                    Answers.refusesIndex(state, "sum(" + wrong + ", 0)", each -> each.sum(wrong, 0));
                    Answers.refusesIndex(state, "sum(" + last + ", " + wrong + ")", each -> each.sum(last, wrong));
                    Answers.refusesIndex(state, "sum of " + wrong + " twice", each -> each.sum(wrong, wrong));
                }
            }
        });
    }

    private static void element() {
        State state = State.of(4, 6, 5, 5, 2);
        Check.test(ELEMENT, "Returns a value of an element.", () -> {
            Answers.changesNothing(state, "element(5, 3)", z -> z.element(5, 3));
        });
        Check.test(ELEMENT, "- `element`: number of an element", () -> {
            for (int what = 0; what <= 3; what++) {
                int[] first = {1, 0, 0, 0};
                int[] last = {12, 5, 0, 0};
                Check.same("element(0, " + what + ")", state.byCalls().element(0, what), first[what]);
                Check.same("element(23, " + what + ")", state.byCalls().element(23, what), last[what]);
            }
        });
        Check.test(ELEMENT, "Returns that value.", () -> {
            ZeroParts changing = new ZeroParts();
            Check.same("order of 2 in 6", changing.element(2, 0), 3);
            changing.begin(4, 1);
            Check.same("order of 2 in 4", changing.element(2, 0), 2);
            Check.same("how often 2 before", changing.element(2, 2), 0);
            changing.add(2);
            Check.same("how often 2 then", changing.element(2, 2), 1);
            Check.same("2 as a sum then", changing.element(2, 3), 1);
            changing.removeAt(0);
            Check.same("2 as a sum no more", changing.element(2, 3), 0);
        });
        Check.test(ELEMENT, "Throws `IndexOutOfBoundsException` if there is no such element", () -> {
            for (int wrong : Answers.outside(0, 23)) {
                for (int what = 0; what <= 3; what++) {
                    int each = what;
                    Answers.refusesIndex(state, "element(" + wrong + ", " + what + ")", z -> z.element(wrong, each));
                }
            }
            Answers.refusesIndex(State.of(1, 1), "element(1, 0) of 1", z -> z.element(1, 0));
        });
        Check.test(ELEMENT, "Throws `IllegalArgumentException` if what is out of range", () -> {
            for (int wrong : Answers.outside(0, 3)) {
                Answers.refusesArgument(state, "element(0, " + wrong + ")", z -> z.element(0, wrong));
                Answers.refusesArgument(state, "element(23, " + wrong + ")", z -> z.element(23, wrong));
            }
        });
    }

    private static void elementValues() {
        State state = State.of(5, 6);
        Check.test(ELEMENT, "- `what`: 0 order, ", () -> {
            int[][] orders = {{0, 1}, {1, 5}, {5, 6}, {6, 30}, {10, 3}, {15, 2}, {29, 30}};
            for (int[] row : orders) {
                Check.same("order of " + row[0], state.byCalls().element(row[0], 0), row[1]);
            }
            Check.same("order of 0 of 1", State.of(1, 1).byCalls().element(0, 0), 1);
        });
        Check.test(ELEMENT, "1 the element that sums to nothing with it, ", () -> {
            int[][] opposites = {{0, 0}, {1, 4}, {4, 1}, {5, 25}, {25, 5}, {6, 29}, {15, 15}, {29, 6}};
            for (int[] row : opposites) {
                Check.same("opposite of " + row[0], state.byCalls().element(row[0], 1), row[1]);
            }
            Check.same("opposite of 0 of 1", State.of(1, 1).byCalls().element(0, 1), 0);
        });
        Check.test(ELEMENT, "2 how often it stands in the sequence, ", () -> {
            Check.same("how often in nothing", state.byCalls().element(0, 2), 0);
            ZeroParts ten = State.times(6, 6, 35, 10).byCalls();
            Check.same("ten times", ten.element(35, 2), 10);
            Check.same("not once", ten.element(0, 2), 0);
            ZeroParts ends = State.of(6, 6, 0, 1, 1, 0).byCalls();
            Check.same("at the first and the last place", ends.element(0, 2), 2);
            Check.same("between", ends.element(1, 2), 2);
        });
        Check.test(ELEMENT, "3 1 if it is a sum of a set of places that is not empty or 0 if not", () -> {
            Check.same("nothing as a sum of no places", new ZeroParts().element(0, 3), 0);
            Check.same("nothing of a free sequence", State.times(6, 1, 1, 5).byCalls().element(0, 3), 0);
            Check.same("nothing of 0", State.of(6, 1, 0).byCalls().element(0, 3), 1);
            Check.same("nothing of six ones", State.times(6, 1, 1, 6).byCalls().element(0, 3), 1);
            ZeroParts all = ALL_SUMS.byCalls();
            for (int e = 0; e < 36; e++) {
                Check.same(e + " of all", all.element(e, 3), 1);
                Check.same(e + " of 35", State.of(6, 6, 35).byCalls().element(e, 3), e == 35 ? 1 : 0);
            }
        });
    }

    private static void bound() {
        Check.test(BOUND, "Returns the least number of elements such that each sequence of so many elements has a set of places that is not empty and sums to nothing: ", () -> {
            // One less of (1, 0) and of (0, 1) each are free where a modulus divides the other, and no longer row is.
            int[][] groups = {{1, 1}, {1, 6}, {6, 1}, {2, 2}, {2, 6}, {6, 2}, {3, 3}, {3, 6}, {4, 2}, {4, 4}, {5, 5}, {6, 3}, {6, 6}};
            for (int[] group : groups) {
                ZeroParts z = State.of(group[0], group[1]).byCalls();
                for (int k = 1; k < group[0]; k++) {
                    z.add(1);
                }
                for (int k = 1; k < group[1]; k++) {
                    z.add(group[0]);
                }
                String what = group[0] + " and " + group[1];
                Check.same("free row of " + what, z.whole(6), 1);
                Check.same("no longer one of " + what, z.freeElement(), -1);
                Check.same("bound of " + what, z.bound(), z.whole(4) + 1);
            }
        });
        Check.test(BOUND, "greatest common divisor of a and b + least common multiple of a and b - 1.", () -> {
            for (int a = 1; a <= 6; a++) {
                for (int b = 1; b <= 6; b++) {
                    int multiple = TermsBoundaries.MULTIPLES[a - 1][b - 1];
                    Check.same("bound of " + a + " and " + b, State.of(a, b).byCalls().bound(), a * b / multiple + multiple - 1);
                }
            }
        });
        Check.test(BOUND, "Returns the number.", () -> {
            Check.same("least bound", State.of(1, 1).byCalls().bound(), 1);
            Check.same("greatest bound", State.of(5, 6).byCalls().bound(), 30);
            Check.same("bound at first", new ZeroParts().bound(), 6);
            Check.same("bound with a full sequence", State.times(5, 6, 6, 10).byCalls().bound(), 30);
        });
    }

    private static void at() {
        State ten = State.of(6, 2, 1, 2, 3, 4, 5, 6, 7, 8, 9, 10).laid(0, 1, 2, 3, 4, 5, 0, 1, 2, 3);
        Check.test(AT, "Returns a value of a place.", () -> {
            Answers.changesNothing(ten, "at(9, 3)", z -> z.at(9, 3));
        });
        Check.test(AT, "- `place`: a place of the sequence", () -> {
            ZeroParts z = ten.byCalls();
            for (int place = 0; place < 10; place++) {
                Check.same("element of the place", z.at(place, 0), place + 1);
            }
        });
        Check.test(AT, "Returns that value.", () -> {
            ZeroParts changing = State.of(6, 1, 1, 5).byCalls();
            Check.same("smallest block at 0", changing.at(0, 3), 2);
            changing.removeAt(1);
            Check.same("blocks at 0 no more", changing.at(0, 2), 0);
            changing.undo();
            Check.same("blocks at 0 again", changing.at(0, 2), 1);
            changing.removeAt(0);
            Check.same("element at 0 then", changing.at(0, 0), 5);
        });
        Check.test(AT, "Throws `IndexOutOfBoundsException` if there is no such place", () -> {
            int[] sizes = {0, 1, 3, 9, 10};
            for (int size : sizes) {
                for (int wrong : Answers.outside(0, size - 1)) {
                    for (int what = 0; what <= 3; what++) {
                        int each = what;
                        State state = State.times(6, 1, 5, size);
                        Answers.refusesIndex(state, "at(" + wrong + ", " + what + ") of " + size, some -> some.at(wrong, each));
                    }
                }
            }
        });
        Check.test(AT, "Throws `IllegalArgumentException` if what is out of range", () -> {
            for (int wrong : Answers.outside(0, 3)) {
                Answers.refusesArgument(ten, "at(0, " + wrong + ")", some -> some.at(0, wrong));
                Answers.refusesArgument(ten, "at(9, " + wrong + ")", some -> some.at(9, wrong));
            }
        });
    }

    private static void atValues() {
        State ends = State.of(6, 6, 0, 35, 0).laid(0, 5, 3);
        // {0, 1}, {1, 3} and {0, 2, 3}; the last place is in none, as no other y is 1.
        State mixed = State.of(6, 2, 1, 5, 4, 1, 6);
        Check.test(AT, "- `what`: 0 element, ", () -> {
            Check.same("element of the first", ends.byCalls().at(0, 0), 0);
            Check.same("element of the second", ends.byCalls().at(1, 0), 35);
            Check.same("element of the last", ends.byCalls().at(2, 0), 0);
        });
        Check.test(AT, "1 part, ", () -> {
            Check.same("part of the first", ends.byCalls().at(0, 1), 0);
            Check.same("part of the second", ends.byCalls().at(1, 1), 5);
            Check.same("part of the last", ends.byCalls().at(2, 1), 3);
        });
        Check.test(AT, "2 number of blocks that contain it, ", () -> {
            Check.same("blocks with 0", ends.byCalls().at(0, 2), 1);
            Check.same("blocks with 35", ends.byCalls().at(1, 2), 0);
            ZeroParts most = MOST_BLOCKS.byCalls();
            for (int place = 0; place < 10; place++) {
                Check.same("of the most blocks, those at " + place, most.at(place, 2), 126);
            }
            int[] blocks = {2, 2, 1, 2, 0};
            for (int place = 0; place < 5; place++) {
                Check.same("blocks of 1 5 4 1 6 at " + place, mixed.byCalls().at(place, 2), blocks[place]);
            }
        });
        Check.test(AT, "3 number of places of the smallest of these (0 if there is none)", () -> {
            int[] smallest = {2, 2, 3, 2, 0};
            for (int place = 0; place < 5; place++) {
                Check.same("smallest block of 1 5 4 1 6 at " + place, mixed.byCalls().at(place, 3), smallest[place]);
            }
            Check.same("smallest block with 0", ends.byCalls().at(2, 3), 1);
            Check.same("smallest block with 35", ends.byCalls().at(1, 3), 0);
            Check.same("smallest block of ten places", State.times(5, 2, 6, 10).byCalls().at(9, 3), 10);
            Check.same("none without blocks", State.of(6, 1, 1).byCalls().at(0, 3), 0);
        });
    }

    private static void set() {
        State three = State.of(6, 1, 1, 5, 2);
        Check.test(SET, "Returns a value of a set of places.", () -> {
            Answers.changesNothing(three, "set(7, 4)", z -> z.set(7, 4));
        });
        Check.test(SET, "- `set`: a set of places", () -> {
            Check.same("no place of nothing", new ZeroParts().set(0, 0), 0);
            Check.same("all three places", three.byCalls().set(7, 0), 3);
            Check.same("all ten places", MOST_BLOCKS.byCalls().set(1023, 0), 10);
        });
        Check.test(SET, "Returns that value.", () -> {
            ZeroParts changing = State.of(6, 1, 2, 4).byCalls();
            Check.same("sum of 2 4 in 6", changing.set(3, 1), 0);
            Check.same("splits of 2 4 in 6", changing.set(3, 4), 1);
            changing.begin(5, 1);
            changing.add(2);
            changing.add(4);
            Check.same("sum of 2 4 in 5", changing.set(3, 1), 1);
            Check.same("splits of 2 4 in 5", changing.set(3, 4), 0);
            Check.same("lengths of 2 4 in 5", changing.set(3, 3), 0);
        });
        Check.test(SET, "Throws `IllegalArgumentException` if set has a place that there is not, ", () -> {
            for (int size = 0; size <= 10; size++) {
                State state = State.times(6, 1, 5, size);
                for (int what = 0; what <= 5; what++) {
                    int each = what;
                    for (int place = size; place <= 30; place++) {
                        int set = 1 << place;
                        Check.sameText("set(" + set + ", " + what + ") of " + size,
                            Check.answerOf(() -> state.byRun().set(set, each)), "throws.IllegalArgumentException");
                    }
                    int more = (2 << size) - 1;
                    Answers.refusesArgument(state, "set(" + more + ", " + what + ") of " + size, z -> z.set(more, each));
                    Answers.refusesArgument(state, "set of the greatest int, " + what, z -> z.set(Integer.MAX_VALUE, each));
                }
            }
        });
        Check.test(SET, "or is negative, ", () -> {
            int[] negative = {-1, -2, -8, -1024, Integer.MIN_VALUE, Integer.MIN_VALUE + 1, Integer.MIN_VALUE + 7};
            for (int wrong : negative) {
                for (int what = 0; what <= 5; what++) {
                    int each = what;
                    Answers.refusesArgument(three, "set(" + wrong + ", " + what + ")", z -> z.set(wrong, each));
                    Answers.refusesArgument(MOST_BLOCKS, "set(" + wrong + ", " + what + ") of ten", z -> z.set(wrong, each));
                }
            }
        });
        Check.test(SET, "or what is out of range", () -> {
            for (int wrong : Answers.outside(0, 5)) {
                Answers.refusesArgument(three, "set(0, " + wrong + ")", z -> z.set(0, wrong));
                Answers.refusesArgument(three, "set(7, " + wrong + ")", z -> z.set(7, wrong));
                Answers.refusesArgument(State.of(6, 1), "set(0, " + wrong + ") of nothing", z -> z.set(0, wrong));
            }
        });
    }

    /** Of 0 5 1 5 1 the sets: nothing, {0}, {1}, {1, 2}, {0, 1, 2}, {1, 2, 3}, {1, 2, 3, 4}, all. */
    private static void values(int what, int... want) {
        ZeroParts z = State.of(6, 1, 0, 5, 1, 5, 1).byCalls();
        int[] sets = {0, 1, 2, 6, 7, 14, 30, 31};
        for (int k = 0; k < sets.length; k++) {
            Check.same("set(" + sets[k] + ", " + what + ")", z.set(sets[k], what), want[k]);
        }
    }

    private static void setValues() {
        Check.test(SET, "- `what`: 0 number of its places, ", () -> {
            values(0, 0, 1, 1, 2, 3, 3, 4, 5);
            Check.same("places of ten", MOST_BLOCKS.byCalls().set(1023, 0), 10);
        });
        Check.test(SET, "1 its sum, ", () -> {
            values(1, 0, 0, 5, 0, 0, 5, 0, 0);
            Check.same("sum of 35", State.of(6, 6, 35).byCalls().set(1, 1), 35);
        });
        Check.test(SET, "2 1 if it is a block or 0 if not, ", () -> {
            values(2, 0, 1, 0, 1, 0, 0, 0, 0);
            Check.same("ten places as a block", State.times(5, 2, 6, 10).byCalls().set(1023, 2), 1);
        });
        Check.test(SET, "3 its lengths, as a set: bit n for n blocks, ", () -> {
            values(3, 1, 2, 0, 2, 4, 0, 4, 8);
            Check.same("lengths of ten zeros", State.times(6, 6, 0, 10).byCalls().set(1023, 3), 1024);
            Check.same("lengths of the most blocks", MOST_BLOCKS.byCalls().set(1023, 3), 4);
            Check.same("lengths of 1 1 1 2 2 2", State.of(3, 1, 1, 1, 1, 2, 2, 2).byCalls().set(63, 3), 12);
        });
        Check.test(SET, "4 number of its splits, ", () -> {
            values(4, 1, 1, 0, 1, 1, 0, 2, 2);
            Check.same("splits of ten ones into pairs", State.times(2, 1, 1, 10).byCalls().set(1023, 4), 945);
            Check.same("splits of the most blocks", MOST_BLOCKS.byCalls().set(1023, 4), 126);
            Check.same("splits of 1 1 1 2 2 2", State.of(3, 1, 1, 1, 1, 2, 2, 2).byCalls().set(63, 4), 7);
        });
        Check.test(SET, "5 number of blocks in it", () -> {
            values(5, 0, 1, 0, 1, 2, 2, 4, 5);
            Check.same("the most blocks", MOST_BLOCKS.byCalls().set(1023, 5), 252);
            Check.same("blocks in nine of its places", MOST_BLOCKS.byCalls().set(511, 5), 126);
            Check.same("blocks in none of its places", MOST_BLOCKS.byCalls().set(0, 5), 0);
        });
    }

    private static void block() {
        State pairs = State.of(6, 1, 1, 5, 1, 5);
        Check.test(BLOCK, "Returns a block.", () -> {
            Answers.changesNothing(pairs, "block(3)", z -> z.block(3));
            Check.same("the only block", State.of(6, 1, 0).byCalls().block(0), 1);
        });
        Check.test(BLOCK, "- `index`: 0 for the one with the least number as a set, and so on", () -> {
            ZeroParts z = pairs.byCalls();
            int[] blocks = {3, 6, 9, 12};
            for (int index = 0; index < blocks.length; index++) {
                Check.same("block(" + index + ")", z.block(index), blocks[index]);
            }
            ZeroParts most = MOST_BLOCKS.byCalls();
            int index = 0;
            for (int set = 0; set < 1024; set++) {
                if (Integer.bitCount(set) == 5) {
                    Check.same("of the most blocks, that of " + index, most.block(index), set);
                    index++;
                }
            }
        });
        Check.test(BLOCK, "Returns the set; ", () -> {
            Check.same("a set of one place", State.of(6, 1, 1, 0).byCalls().block(0), 2);
            Check.same("a set of ten places", State.times(5, 2, 6, 10).byCalls().block(0), 1023);
        });
        Check.test(BLOCK, "NONE if there are not so many.", () -> {
            ZeroParts z = pairs.byCalls();
            ZeroParts most = MOST_BLOCKS.byCalls();
            int[] beyond = {4, 5, 31, 32, 252, 1023, 1024, 65536, Integer.MAX_VALUE};
            for (int far : beyond) {
                Check.same("block(" + far + ") of four", z.block(far), -1);
            }
            Check.same("block(0) of nothing", new ZeroParts().block(0), -1);
            Check.same("block(0) of 1", State.of(6, 1, 1).byCalls().block(0), -1);
            Check.same("block(252) of 252", most.block(252), -1);
            Check.same("block(1024) of 252", most.block(1024), -1);
            z.removeAt(3);
            Check.same("block(2) of two after a removal", z.block(2), -1);
        });
        Check.test(BLOCK, "Throws `IllegalArgumentException` if index is negative", () -> {
            int[] negative = {-1, -2, -252, -1024, Integer.MIN_VALUE, Integer.MIN_VALUE + 1};
            for (int wrong : negative) {
                Answers.refusesArgument(pairs, "block(" + wrong + ")", each -> each.block(wrong));
                Answers.refusesArgument(State.of(6, 1), "block(" + wrong + ") of nothing", each -> each.block(wrong));
            }
        });
    }

    /** The values of the parts from 0 on, and those of an empty sequence. */
    private static void partValues(State state, int what, int... want) {
        for (int part = 0; part <= 5; part++) {
            Check.same("part(" + part + ", " + what + ")", state.byCalls().part(part, what), want[part]);
            Check.same("part(" + part + ", " + what + ") of nothing", new ZeroParts().part(part, what), 0);
        }
    }

    private static void part() {
        State six = State.of(6, 6, 0, 35, 7, 1, 5, 3, 3).laid(5, 4, 4, 3, 3, 3, 1);
        Check.test(PART, "Returns a value of a part.", () -> {
            Answers.changesNothing(six, "part(5, 2)", each -> each.part(5, 2));
        });
        Check.test(PART, "- `part`: 0 to 5", () -> {
            Check.same("places of part 0", MOST_BLOCKS.byCalls().part(0, 0), 1023);
            Check.same("places of part 5", State.of(6, 1, 1).laid(5).byCalls().part(5, 0), 1);
        });
        Check.test(PART, "- `what`: 0 its set of places, ", () -> partValues(six, 0, 0, 64, 0, 56, 6, 1));
        Check.test(PART, "1 its sum, ", () -> partValues(six, 1, 0, 3, 0, 3, 0, 0));
        Check.test(PART, "2 1 if it is good or 0 if not", () -> {
            partValues(six, 2, 0, 0, 0, 0, 1, 1);
            Check.same("1 5 3 3 sums to nothing, but is not good", State.of(6, 1, 1, 5, 3, 3).byCalls().part(0, 2), 0);
        });
        Check.test(PART, "Returns that value.", () -> {
            ZeroParts z = six.byCalls();
            z.lay(0, 0);
            Check.same("part 5, now empty", z.part(5, 0), 0);
            Check.same("part 0 then", z.part(0, 2), 1);
            z.undo();
            Check.same("part 5 again", z.part(5, 2), 1);
        });
        Check.test(PART, "Throws `IllegalArgumentException` if part or what is out of range", () -> {
            for (int wrong : Answers.outside(0, 5)) {
                Answers.refusesArgument(six, "part(" + wrong + ", 0)", each -> each.part(wrong, 0));
                Answers.refusesArgument(six, "part(" + wrong + ", 2)", each -> each.part(wrong, 2));
            }
            for (int wrong : Answers.outside(0, 2)) {
                Answers.refusesArgument(six, "part(0, " + wrong + ")", each -> each.part(0, wrong));
                Answers.refusesArgument(six, "part(5, " + wrong + ")", each -> each.part(5, wrong));
            }
            Answers.refusesArgument(six, "part(6, 3)", each -> each.part(6, 3));
        });
    }

    private static void wholeRange() {
        Check.test(WHOLE, "Returns a value of the whole.", () -> {
            for (int what = 0; what <= 13; what++) {
                int each = what;
                Answers.changesNothing(ALL_SUMS, "whole(" + what + ")", z -> z.whole(each));
            }
        });
        Check.test(WHOLE, "Returns that value.", () -> {
            ZeroParts changing = State.of(6, 1, 1, 5).byCalls();
            Check.same("blocks of 1 5", changing.whole(7), 1);
            changing.removeAt(0);
            Check.same("blocks of 5", changing.whole(7), 0);
            Check.same("sum of 5", changing.whole(5), 5);
            changing.undo();
            Check.same("blocks of 1 5 again", changing.whole(7), 1);
            changing.removeAt(1);
            Check.same("blocks of 1", changing.whole(7), 0);
            Check.same("smallest block of 1", changing.whole(8), 0);
        });
        Check.test(WHOLE, "Throws `IllegalArgumentException` if what is out of range", () -> {
            for (int wrong : Answers.outside(0, 13)) {
                Answers.refusesArgument(ALL_SUMS, "whole(" + wrong + ")", z -> z.whole(wrong));
                Answers.refusesArgument(State.of(1, 1), "whole(" + wrong + ") of nothing", z -> z.whole(wrong));
            }
        });
    }

    private static void groupValues(int what, int... want) {
        int[][] groups = {{1, 1}, {1, 6}, {6, 1}, {2, 4}, {4, 6}, {5, 6}, {6, 6}};
        for (int k = 0; k < groups.length; k++) {
            ZeroParts z = State.of(groups[k][0], groups[k][1]).byCalls();
            Check.same("whole(" + what + ") of " + groups[k][0] + " and " + groups[k][1], z.whole(what), want[k]);
        }
    }

    private static void wholeGroup() {
        Check.test(WHOLE, "- `what`: 0 a, ", () -> groupValues(0, 1, 1, 6, 2, 4, 5, 6));
        Check.test(WHOLE, "1 b, ", () -> groupValues(1, 1, 6, 1, 4, 6, 6, 6));
        Check.test(WHOLE, "2 elements of the group, ", () -> groupValues(2, 1, 6, 6, 8, 24, 30, 36));
        Check.test(WHOLE, "3 exponent, ", () -> groupValues(3, 1, 6, 6, 4, 12, 30, 6));
    }

    private static void wholeSequence() {
        Check.test(WHOLE, "4 elements of the sequence, ", () -> {
            for (int size = 0; size <= 10; size++) {
                Check.same("whole(4)", State.times(6, 1, 1, size).byCalls().whole(4), size);
            }
        });
        Check.test(WHOLE, "5 sum of the sequence, ", () -> {
            for (int size = 0; size <= 10; size++) {
                Check.same("whole(5) of ones", State.times(6, 1, 1, size).byCalls().whole(5), size % 6);
            }
            Check.same("whole(5) of 35", State.of(6, 6, 35).byCalls().whole(5), 35);
        });
        Check.test(WHOLE, "6 1 if it is free or 0 if not, ", () -> {
            for (int size = 0; size <= 10; size++) {
                Check.same("whole(6) of ones", State.times(6, 1, 1, size).byCalls().whole(6), size < 6 ? 1 : 0);
            }
            Check.same("whole(6) of 0", State.of(6, 1, 0).byCalls().whole(6), 0);
            Check.same("whole(6) of ten", State.times(5, 6, 6, 10).byCalls().whole(6), 1);
        });
        Check.test(WHOLE, "13 length of the command text", () -> {
            ZeroParts z = new ZeroParts();
            for (int length = 0; length < 150; length++) {
                Check.same("whole(13)", z.whole(13), length);
                z.type(length % 128);
            }
            Check.same("whole(13) of a full text", z.whole(13), 150);
        });
    }

    private static void wholeBlocks() {
        State free = State.times(5, 6, 6, 10);
        State ten = State.times(5, 2, 6, 10);
        State mixed = State.of(6, 1, 0, 1, 1, 4, 5, 0);
        Check.test(WHOLE, "7 blocks, ", () -> {
            Check.same("blocks of nothing", new ZeroParts().whole(7), 0);
            Check.same("blocks of a free sequence", free.byCalls().whole(7), 0);
            Check.same("blocks of a block", ten.byCalls().whole(7), 1);
            // 0, 0, 1 5, 1 5, 1 1 4
            Check.same("blocks of 0 1 1 4 5 0", mixed.byCalls().whole(7), 5);
            Check.same("the most blocks", MOST_BLOCKS.byCalls().whole(7), 252);
        });
        Check.test(WHOLE, "8 places of the smallest block (0 without blocks), ", () -> {
            Check.same("smallest of nothing", new ZeroParts().whole(8), 0);
            Check.same("smallest of a free sequence", free.byCalls().whole(8), 0);
            Check.same("smallest of a block", ten.byCalls().whole(8), 10);
            Check.same("smallest of 0 1 1 4 5 0", mixed.byCalls().whole(8), 1);
            Check.same("smallest of 1 1 4 5", State.of(6, 1, 1, 1, 4, 5).byCalls().whole(8), 2);
        });
        Check.test(WHOLE, "9 places of the greatest block (0 without blocks), ", () -> {
            Check.same("greatest of nothing", new ZeroParts().whole(9), 0);
            Check.same("greatest of a free sequence", free.byCalls().whole(9), 0);
            Check.same("greatest of a block", ten.byCalls().whole(9), 10);
            Check.same("greatest of 0 1 1 4 5 0", mixed.byCalls().whole(9), 3);
            Check.same("greatest of 0", State.of(6, 1, 0).byCalls().whole(9), 1);
        });
    }

    private static void wholeParts() {
        State six = State.times(6, 1, 0, 6).laid(0, 1, 2, 3, 4, 5);
        State some = State.of(6, 1, 1, 5, 3, 3, 0, 2).laid(5, 5, 2, 2, 2, 0);
        Check.test(WHOLE, "10 parts that are not empty, ", () -> {
            Check.same("parts of nothing", new ZeroParts().whole(10), 0);
            Check.same("parts of 1", State.of(6, 1, 1).byCalls().whole(10), 1);
            Check.same("six parts", six.byCalls().whole(10), 6);
            Check.same("three parts", some.byCalls().whole(10), 3);
            Check.same("one part of ten places", MOST_BLOCKS.byCalls().whole(10), 1);
        });
        Check.test(WHOLE, "11 of these those that are good, ", () -> {
            Check.same("good parts of nothing", new ZeroParts().whole(11), 0);
            Check.same("good parts of 1", State.of(6, 1, 1).byCalls().whole(11), 0);
            Check.same("six good parts", six.byCalls().whole(11), 6);
            // 2 is no block, 1 5 is one, 3 3 0 contains a smaller one
            Check.same("one good part", some.byCalls().whole(11), 1);
            Check.same("ten places that are more than a block", MOST_BLOCKS.byCalls().whole(11), 0);
        });
    }

    private static void wholeSums() {
        Check.test(WHOLE, "12 elements of the group that are sums of sets that are not empty, ", () -> {
            Check.same("sums of nothing", new ZeroParts().whole(12), 0);
            Check.same("sums of 0", State.of(6, 1, 0).byCalls().whole(12), 1);
            Check.same("sums of ten zeros", State.times(6, 6, 0, 10).byCalls().whole(12), 1);
            Check.same("sums of 35", State.of(6, 6, 35).byCalls().whole(12), 1);
            Check.same("all but nothing", State.times(6, 1, 1, 5).byCalls().whole(12), 5);
            Check.same("all", State.times(6, 1, 1, 6).byCalls().whole(12), 6);
            Check.same("35 of 36", State.of(6, 6, 1, 1, 1, 1, 1, 6, 6, 6, 6, 6).byCalls().whole(12), 35);
            Check.same("36 of 36", ALL_SUMS.byCalls().whole(12), 36);
        });
    }

    private static void sums() {
        Check.test(SUMS, "Returns the elements of the group that are sums of sets of places that are not empty.", () -> {
            Check.same("sums of nothing", new ZeroParts().sums(), 0);
            Check.same("a free sequence does not reach nothing", State.times(6, 1, 1, 5).byCalls().sums(), 62);
            Check.same("six ones do", State.times(6, 1, 1, 6).byCalls().sums(), 63);
            Check.same("0 alone", State.of(6, 1, 0).byCalls().sums(), 1);
            Check.same("1 and 3", State.of(6, 1, 1, 3).byCalls().sums(), 2 + 8 + 16);
            Answers.changesNothing(ALL_SUMS, "sums()", z -> z.sums());
        });
        Check.test(SUMS, "Returns the set, bit e for the element e.", () -> {
            for (int e = 0; e < 36; e++) {
                Check.same("sums of " + e, State.of(6, 6, e).byCalls().sums(), 1L << e);
            }
            Check.same("all 36", ALL_SUMS.byCalls().sums(), (1L << 36) - 1);
            Check.same("the only element", State.times(1, 1, 0, 10).byCalls().sums(), 1);
        });
    }

    private static void cross() {
        Check.test(CROSS, "Returns the cross number: the sum of 1 / order over all places, added in their order from 0.0 on, in double arithmetic.", () -> {
            Check.sameDouble("cross of nothing", new ZeroParts().cross(), 0.0);
            Check.sameDouble("cross of 0", State.of(6, 1, 0).byCalls().cross(), 1.0);
            Check.sameDouble("cross of ten zeros", State.times(1, 1, 0, 10).byCalls().cross(), 10.0);
            Check.sameDouble("cross of the order 30", State.of(5, 6, 29).byCalls().cross(), 1.0 / 30);
            double tenth = 0.0;
            double sixths = 0.0;
            for (int k = 0; k < 10; k++) {
                tenth += 1.0 / 10;
                sixths += 1.0 / 6;
            }
            Check.isTrue("ten tenths are not 1.0", tenth != 1.0);
            Check.sameDouble("cross of ten of the order 10", State.times(5, 2, 6, 10).byCalls().cross(), tenth);
            Check.sameDouble("cross of ten of the order 6", State.times(6, 1, 5, 10).byCalls().cross(), sixths);
            double rising = 0.0 + 1.0 / 3 + 1.0 / 3 + 1.0 / 6 + 1.0 / 6 + 1.0 / 6 + 1.0;
            double falling = 0.0 + 1.0 + 1.0 / 6 + 1.0 / 6 + 1.0 / 6 + 1.0 / 3 + 1.0 / 3;
            Check.isTrue("the order tells", rising != falling);
            Check.sameDouble("cross of 2 2 1 1 1 0", State.of(6, 1, 2, 2, 1, 1, 1, 0).byCalls().cross(), rising);
            Check.sameDouble("cross of 0 1 1 1 2 2", State.of(6, 1, 0, 1, 1, 1, 2, 2).byCalls().cross(), falling);
            Answers.changesNothing(ALL_SUMS, "cross()", z -> (long) z.cross());
        });
        Check.test(CROSS, "Returns the number.", () -> {
            ZeroParts z = State.of(6, 1, 3, 2).byCalls();
            Check.sameDouble("cross of 3 2", z.cross(), 1.0 / 2 + 1.0 / 3);
            z.removeAt(0);
            Check.sameDouble("cross of 2", z.cross(), 1.0 / 3);
            z.begin(3, 1);
            Check.sameDouble("cross after begin", z.cross(), 0.0);
        });
    }
}
