/** Promises 1 to 6: a new object, and the calls under 'group and sequence'. */
final class ChangeBoundaries {
    private static final String NEW = "Promise 1: A new object";
    private static final String BEGIN = "Promise 2: begin";
    private static final String ADD = "Promise 3: add";
    private static final String REMOVE = "Promise 4: removeAt";
    private static final String LAY = "Promise 5: lay";
    private static final String SPLIT = "Promise 6: laySplit";

    private ChangeBoundaries() {
    }

    static void all() {
        newObject();
        begin();
        beginRange();
        add();
        addRange();
        addToFull();
        removeAt();
        removeRange();
        lay();
        layRange();
        laySplitMost();
        laySplitFirst();
        laySplitNext();
        laySplitParts();
        laySplitRefused();
    }

    private static void newObject() {
        Check.test(NEW, "Creates an empty sequence over the group with the moduli 6 and 1, with an empty command text and an empty undo stack.", () -> {
            ZeroParts z = new ZeroParts();
            int[] whole = {6, 1, 6, 6, 0, 0, 1, 0, 0, 0, 0, 0, 0, 0};
            for (int what = 0; what < whole.length; what++) {
                Check.same("whole(" + what + ")", z.whole(what), whole[what]);
            }
            Check.same("run of the empty text", new ZeroParts().runCommands(), 0);
            Check.failsOnState(z, "undo()", () -> z.undo());
            ZeroParts other = new ZeroParts();
            other.add(5);
            Check.same("the elements of one object are not another's", z.whole(4), 0);
            Check.same("the last element at first", other.at(0, 0), 5);
            Check.failsOnIndex(z, "add(6) at first", () -> z.add(6));
        });
    }

    private static void begin() {
        Check.test(BEGIN, "Begins with a group and an empty sequence. ", () -> {
            ZeroParts z = State.of(6, 6, 35, 1, 5).laid(5, 4, 4).byCalls();
            z.type('a');
            z.begin(2, 3);
            Check.sameText("state", Answers.state(z), Answers.state(State.of(2, 3).byCalls()));
            Check.same("a", z.whole(0), 2);
            Check.same("b", z.whole(1), 3);
            Check.same("elements", z.whole(4), 0);
            Check.same("blocks", z.whole(7), 0);
            Check.same("part 5", z.part(5, 0), 0);
            Check.same("command text", z.whole(13), 1);
            z.add(5);
            Check.same("part of the first place then", z.at(0, 1), 0);
            z.begin(2, 3);
            Check.same("elements after the same group once more", z.whole(4), 0);
            sameElementsElsewhere();
        });
        Check.test(BEGIN, "Undoable.", () -> {
            State state = State.of(6, 6, 35, 1, 5).laid(5, 4, 4);
            Answers.savesOne(state, "begin(1, 1)", each -> each.begin(1, 1));
            Answers.savesOne(state, "begin(6, 6)", each -> each.begin(6, 6));
            Answers.savesOne(State.of(3, 3), "begin(3, 3) of nothing", each -> each.begin(3, 3));
        });
        Check.test(BEGIN, "Returns the number of elements of the group.", () -> {
            ZeroParts z = new ZeroParts();
            Check.same("begin(1, 1)", z.begin(1, 1), 1);
            Check.same("begin(1, 6)", z.begin(1, 6), 6);
            Check.same("begin(6, 1)", z.begin(6, 1), 6);
            Check.same("begin(5, 6)", z.begin(5, 6), 30);
            Check.same("begin(6, 6)", z.begin(6, 6), 36);
        });
    }

    /** The same elements in another group, with no question between, have other sums and blocks. */
    private static void sameElementsElsewhere() {
        int[][] groups = {{2, 3}, {2, 4}, {4, 4}, {4, 2}, {6, 2}, {6, 6}, {3, 6}, {3, 3}, {3, 2}, {2, 3}};
        ZeroParts z = new ZeroParts();
        for (int[] group : groups) {
            z.begin(group[0], group[1]);
            for (int k = 0; k < 4; k++) {
                z.add(2);
            }
            String what = "2 2 2 2 in " + group[0] + " and " + group[1];
            State state = State.times(group[0], group[1], 2, 4);
            Check.same("first block of " + what, z.block(0), state.byCalls().block(0));
            Check.sameText(what, Answers.state(z), Answers.state(state.byCalls()));
        }
    }

    private static void beginRange() {
        State state = State.of(2, 5, 9, 1).laid(0, 3);
        Check.test(BEGIN, "- `a`: 1 to 6", () -> {
            for (int a = 1; a <= 6; a++) {
                Check.same("begin(" + a + ", 1)", new ZeroParts().begin(a, 1), a);
            }
        });
        Check.test(BEGIN, "- `b`: 1 to 6", () -> {
            for (int b = 1; b <= 6; b++) {
                Check.same("begin(1, " + b + ")", new ZeroParts().begin(1, b), b);
            }
        });
        Check.test(BEGIN, "Throws `IllegalArgumentException` if a or b is out of range", () -> {
            for (int wrong : Answers.outside(1, 6)) {
                Answers.refusesArgument(state, "begin(" + wrong + ", 1)", z -> z.begin(wrong, 1));
                Answers.refusesArgument(state, "begin(6, " + wrong + ")", z -> z.begin(6, wrong));
                Answers.refusesArgument(state, "begin of " + wrong + " twice", z -> z.begin(wrong, wrong));
            }
            Answers.refusesArgument(state, "begin(0, 7)", z -> z.begin(0, 7));
        });
    }

    private static void add() {
        Check.test(ADD, "Appends an element to the sequence; ", () -> {
            ZeroParts z = State.of(6, 6, 35).byCalls();
            z.add(0);
            z.add(35);
            z.add(17);
            Check.sameText("elements", Answers.elements(z), "35 0 35 17");
        });
        Check.test(ADD, "its place belongs to part 0. ", () -> {
            ZeroParts parts = State.times(6, 1, 1, 10).laid(5, 5, 5, 5, 5, 5, 5, 5, 5, 5).byCalls();
            parts.removeAt(9);
            parts.removeAt(0);
            parts.add(1);
            Check.same("part of a place that was another's", parts.at(8, 1), 0);
            parts.add(1);
            Check.same("part of the last place", parts.at(9, 1), 0);
            parts.begin(6, 1);
            parts.add(2);
            Check.same("part of the first place of a new sequence", parts.at(0, 1), 0);
            parts.lay(0, 4);
            parts.undo();
            parts.undo();
            parts.add(2);
            Check.same("part of a place that was undone", parts.at(0, 1), 0);
        });
        Check.test(ADD, "Undoable.", () -> {
            Answers.savesOne(State.of(6, 1), "add(0) to nothing", each -> each.add(0));
            Answers.savesOne(State.times(6, 1, 1, 9), "the tenth add", each -> each.add(5));
        });
        Check.test(ADD, "Returns the place.", () -> {
            ZeroParts places = new ZeroParts();
            for (int place = 0; place < 10; place++) {
                Check.same("place", places.add(place % 6), place);
            }
            places.removeAt(3);
            Check.same("place after a removal", places.add(0), 9);
            places.undo();
            places.undo();
            places.removeAt(9);
            Check.same("place after undo and a removal", places.add(0), 9);
        });
    }

    private static void addRange() {
        Check.test(ADD, "- `element`: number of an element", () -> {
            for (int e = 0; e < 36; e++) {
                ZeroParts z = State.of(6, 6).byCalls();
                z.add(e);
                Check.same("element", z.at(0, 0), e);
            }
            Check.same("the only element", State.of(1, 1).byCalls().add(0), 0);
        });
        Check.test(ADD, "Throws `IndexOutOfBoundsException` if there is no such element", () -> {
            int[][] groups = {{1, 1}, {6, 1}, {1, 6}, {5, 6}, {6, 6}};
            for (int[] group : groups) {
                State state = State.of(group[0], group[1], 0);
                for (int wrong : Answers.outside(0, group[0] * group[1] - 1)) {
                    Answers.refusesIndex(state, "add(" + wrong + ")", z -> z.add(wrong));
                }
            }
            ZeroParts z = State.of(6, 6, 35).byCalls();
            z.begin(5, 6);
            Check.failsOnIndex(z, "add(30) in a smaller group", () -> z.add(30));
            z.undo();
            Check.same("add(30) back in the greater one", z.add(30), 1);
        });
    }

    private static void addToFull() {
        Check.test(ADD, "Throws `IllegalStateException` if the sequence has 10 elements", () -> {
            State full = State.times(6, 1, 1, 10).laid(5, 0, 5);
            for (int e = 0; e < 6; e++) {
                int element = e;
                Answers.refusesState(full, "add(" + e + ")", z -> z.add(element));
            }
            ZeroParts z = full.byCalls();
            Answers.refusesState(full, "add(0)", each -> each.add(0));
            z.removeAt(9);
            Check.same("add to nine", z.add(0), 9);
            Check.failsOnState(z, "add to ten", () -> z.add(0));
        });
    }

    private static void removeAt() {
        State four = State.of(6, 1, 1, 2, 3, 4).laid(1, 2, 3, 4);
        Check.test(REMOVE, "Removes the element at a place; ", () -> {
            ZeroParts z = four.byCalls();
            z.removeAt(3);
            Check.sameText("elements but the last", Answers.elements(z), "1 2 3");
            ZeroParts only = State.of(6, 1, 3).byCalls();
            only.removeAt(0);
            Check.sameText("state without the only", Answers.state(only), Answers.state(State.of(6, 1).byCalls()));
        });
        Check.test(REMOVE, "those behind it move up, with their parts. ", () -> {
            String[] elements = {"2 3 4", "1 3 4", "1 2 4", "1 2 3"};
            String[] parts = {"2 3 4", "1 3 4", "1 2 4", "1 2 3"};
            for (int place = 0; place < 4; place++) {
                ZeroParts each = four.byCalls();
                each.removeAt(place);
                Check.sameText("elements without " + place, Answers.elements(each), elements[place]);
                Check.sameText("parts without " + place, Answers.parts(each), parts[place]);
            }
            ZeroParts full = State.of(6, 2, 1, 2, 3, 4, 5, 6, 7, 8, 9, 10).laid(0, 1, 2, 3, 4, 5, 0, 1, 2, 3).byCalls();
            full.removeAt(0);
            Check.sameText("elements of ten without the first", Answers.elements(full), "2 3 4 5 6 7 8 9 10");
            Check.sameText("parts of ten without the first", Answers.parts(full), "1 2 3 4 5 0 1 2 3");
        });
        Check.test(REMOVE, "Undoable.", () -> {
            Answers.savesOne(four, "removeAt(0)", each -> each.removeAt(0));
            Answers.savesOne(four, "removeAt(3)", each -> each.removeAt(3));
            Answers.savesOne(State.of(6, 1, 0), "removeAt(0) of the only", each -> each.removeAt(0));
        });
        Check.test(REMOVE, "Returns the element.", () -> {
            for (int place = 0; place < 4; place++) {
                Check.same("removeAt(" + place + ")", four.byCalls().removeAt(place), place + 1);
            }
            Check.same("removeAt(0) of 0", State.of(6, 6, 0, 35).byCalls().removeAt(0), 0);
            Check.same("removeAt(1) of 35", State.of(6, 6, 0, 35).byCalls().removeAt(1), 35);
        });
    }

    private static void removeRange() {
        Check.test(REMOVE, "- `place`: a place of the sequence", () -> {
            ZeroParts z = State.of(6, 2, 1, 2, 3, 4, 5, 6, 7, 8, 9, 10).byCalls();
            for (int place = 9; place >= 0; place--) {
                Check.same("removeAt(" + place + ")", z.removeAt(place), place + 1);
            }
        });
        Check.test(REMOVE, "Throws `IndexOutOfBoundsException` if there is no such place", () -> {
            int[] sizes = {0, 1, 3, 9, 10};
            for (int size : sizes) {
                for (int wrong : Answers.outside(0, size - 1)) {
                    Answers.refusesIndex(State.times(6, 1, 5, size), "removeAt(" + wrong + ") of " + size, each -> each.removeAt(wrong));
                }
            }
            ZeroParts z = State.of(6, 1, 1).byCalls();
            z.removeAt(0);
            Check.failsOnIndex(z, "removeAt(0) of what was removed", () -> z.removeAt(0));
        });
    }

    private static void lay() {
        Check.test(LAY, "Lets a place belong to a part. ", () -> {
            ZeroParts z = State.times(6, 1, 1, 10).byCalls();
            z.lay(0, 5);
            z.lay(9, 5);
            z.lay(4, 1);
            z.lay(4, 2);
            Check.sameText("parts", Answers.parts(z), "5 0 0 0 2 0 0 0 0 5");
            z.lay(9, 0);
            Check.sameText("back in part 0", Answers.parts(z), "5 0 0 0 2 0 0 0 0 0");
        });
        Check.test(LAY, "Undoable.", () -> {
            State three = State.of(6, 1, 1, 2, 3).laid(0, 4);
            Answers.savesOne(three, "lay(2, 5)", each -> each.lay(2, 5));
            Answers.savesOne(three, "lay(0, 0) that changes nothing", each -> each.lay(0, 0));
            Answers.savesOne(three, "lay(1, 4) that changes nothing", each -> each.lay(1, 4));
        });
        Check.test(LAY, "Returns the previous part.", () -> {
            ZeroParts z = State.times(6, 1, 1, 10).byCalls();
            Check.same("lay(3, 5)", z.lay(3, 5), 0);
            Check.same("lay(3, 5) again", z.lay(3, 5), 5);
            Check.same("lay(3, 0)", z.lay(3, 0), 5);
            Check.same("lay(3, 1)", z.lay(3, 1), 0);
        });
    }

    private static void layRange() {
        State ten = State.times(6, 1, 1, 10);
        Check.test(LAY, "- `place`: a place of the sequence", () -> {
            ZeroParts z = ten.byCalls();
            for (int place = 0; place < 10; place++) {
                z.lay(place, 5);
                Check.same("part of " + place, z.at(place, 1), 5);
            }
        });
        Check.test(LAY, "- `part`: 0 to 5", () -> {
            ZeroParts z = ten.byCalls();
            for (int part = 0; part <= 5; part++) {
                z.lay(0, part);
                Check.same("part", z.at(0, 1), part);
            }
        });
        Check.test(LAY, "Throws `IndexOutOfBoundsException` if there is no such place", () -> {
            int[] sizes = {0, 1, 3, 9, 10};
            for (int size : sizes) {
                for (int wrong : Answers.outside(0, size - 1)) {
                    Answers.refusesIndex(State.times(6, 1, 5, size), "lay(" + wrong + ", 5) of " + size, each -> each.lay(wrong, 5));
                }
            }
        });
        Check.test(LAY, "Throws `IllegalArgumentException` if part is out of range", () -> {
            for (int wrong : Answers.outside(0, 5)) {
                Answers.refusesArgument(ten, "lay(0, " + wrong + ")", each -> each.lay(0, wrong));
                Answers.refusesArgument(ten, "lay(9, " + wrong + ")", each -> each.lay(9, wrong));
            }
        });
    }

    private static void split(String what, State state, int blocks, String parts) {
        ZeroParts z = state.byCalls();
        Check.same("laySplit() of " + what, z.laySplit(), blocks);
        Check.sameText("parts of " + what, Answers.parts(z), parts);
    }

    private static void laySplitMost() {
        Check.test(SPLIT, "Lays the parts by a split of the whole sequence with the most blocks: ", () -> {
            // Both 1 1 1 with 2 2 2 and three pairs part it.
            split("1 1 1 2 2 2", State.of(3, 1, 1, 1, 1, 2, 2, 2), 3, "0 1 2 0 1 2");
            split("ten", State.of(3, 1, 1, 1, 1, 1, 1, 2, 2, 2, 2, 2), 5, "0 1 2 3 4 0 1 2 3 4");
            split("a block of ten", State.times(5, 2, 6, 10), 1, "0 0 0 0 0 0 0 0 0 0");
            split("0", State.of(6, 1, 0), 1, "0");
        });
    }

    private static void laySplitFirst() {
        Check.test(SPLIT, "the first block is that with the least number as a set of those blocks that contain the place 0 and with which there is such a split, ", () -> {
            split("1 1 5 5", State.of(6, 1, 1, 1, 5, 5), 2, "0 1 0 1");
            // {1, 2} is less than {0, 3}, but has not the place 0.
            split("1 2 4 5", State.of(6, 1, 1, 2, 4, 5), 2, "0 1 1 0");
            // {0, 1, 2} is less than {0, 3}, but leaves just one block more.
            split("3 1 2 3 5 4", State.of(6, 1, 3, 1, 2, 3, 5, 4), 3, "0 1 2 0 1 2");
            // {0, 1, 3} is less than {0, 4}, and {0, 1, 2} than {0, 3}; each leaves one block.
            split("1 3 3 2 5 4", State.of(6, 1, 1, 3, 3, 2, 5, 4), 3, "0 1 1 2 0 2");
            split("1 3 2 5 3 4", State.of(6, 1, 1, 3, 2, 5, 3, 4), 3, "0 1 2 0 1 2");
            // Of the ten blocks with the place 0, all of which leave another, {0, 1, 2} is the least.
            split("2 2 2 2 2 2", State.times(6, 1, 2, 6), 2, "0 0 0 1 1 1");
        });
    }

    private static void laySplitNext() {
        Check.test(SPLIT, "the next one likewise of those that contain the lowest place that is left, and so on; ", () -> {
            split("0 3 1 2 3 5 4", State.of(6, 1, 0, 3, 1, 2, 3, 5, 4), 4, "0 1 2 3 1 2 3");
            split("3 0 1 3 5", State.of(6, 1, 3, 0, 1, 3, 5), 3, "0 1 2 0 2");
            split("2 4 0 1 1 5 5 0", State.of(6, 1, 2, 4, 0, 1, 1, 5, 5, 0), 5, "0 0 1 2 3 2 3 4");
            split("ten in five pairs", State.of(6, 1, 1, 2, 3, 1, 2, 5, 4, 3, 5, 4), 5, "0 1 2 3 4 0 1 2 3 4");
        });
    }

    private static void laySplitParts() {
        Check.test(SPLIT, "the blocks are the parts 0, 1, and so on (none for an empty sequence). ", () -> {
            split("nothing", State.of(6, 1), 0, "");
            ZeroParts none = State.of(6, 1).byCalls();
            none.laySplit();
            Check.same("parts of nothing", none.whole(10), 0);
            split("six zeros", State.times(2, 2, 0, 6), 6, "0 1 2 3 4 5");
            // Where the places lay before is forgotten.
            split("1 5 laid in 5 and 4", State.of(6, 1, 1, 5).laid(5, 4), 1, "0 0");
            split("1 5 3 3 laid in 3", State.of(6, 1, 1, 5, 3, 3).laid(3, 3, 3, 3), 2, "0 0 1 1");
            ZeroParts z = State.of(6, 1, 1, 5, 3, 3).laid(3, 3, 3, 3).byCalls();
            z.laySplit();
            Check.same("all laid parts are good", z.whole(11), 2);
            Check.same("laid parts", z.whole(10), 2);
        });
        Check.test(SPLIT, "Undoable.", () -> {
            Answers.savesOne(State.of(6, 1, 1, 5, 3, 3).laid(3, 3, 3, 3), "laySplit()", each -> each.laySplit());
            Answers.savesOne(State.of(6, 1, 0), "laySplit() that changes nothing", each -> each.laySplit());
            Answers.savesOne(State.of(6, 1), "laySplit() of nothing", each -> each.laySplit());
        });
        Check.test(SPLIT, "Returns the number of blocks.", () -> {
            for (int size = 0; size <= 6; size++) {
                Check.same("laySplit() of " + size, State.times(1, 1, 0, size).byCalls().laySplit(), size);
            }
        });
    }

    private static void laySplitRefused() {
        Check.test(SPLIT, "Throws `IllegalStateException` if the whole sequence does not sum to nothing, ", () -> {
            Answers.refusesState(State.of(6, 1, 1).laid(3), "laySplit() of 1", z -> z.laySplit());
            Answers.refusesState(State.of(6, 1, 0, 0, 5).laid(3, 3), "laySplit() of 0 0 5", z -> z.laySplit());
            Answers.refusesState(State.times(6, 1, 1, 10), "laySplit() of ten", z -> z.laySplit());
            Answers.refusesState(State.of(6, 6, 1, 5, 6), "laySplit() of what sums to (0, 1)", z -> z.laySplit());
            Answers.refusesState(State.of(6, 6, 6, 30, 1), "laySplit() of what sums to (1, 0)", z -> z.laySplit());
        });
        Check.test(SPLIT, "or has more than 6 blocks in such a split", () -> {
            for (int size = 7; size <= 10; size++) {
                Answers.refusesState(State.times(1, 1, 0, size).laid(0, 5), "laySplit() of " + size, z -> z.laySplit());
            }
            // It has a split into 6 blocks too, but that with the most has 7.
            State seven = State.of(3, 1, 0, 0, 0, 0, 1, 1, 1, 2, 2, 2);
            Check.same("lengths of 0 0 0 0 1 1 1 2 2 2", seven.byCalls().set(1023, 3), 1 << 7 | 1 << 6);
            Answers.refusesState(seven, "laySplit() of 0 0 0 0 1 1 1 2 2 2", z -> z.laySplit());
            split("six blocks of nine places", State.of(3, 1, 0, 0, 0, 1, 1, 1, 2, 2, 2), 6, "0 1 2 3 4 5 3 4 5");
        });
    }
}
