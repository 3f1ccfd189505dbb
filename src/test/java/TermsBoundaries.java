import java.lang.reflect.Method;
import java.lang.reflect.Modifier;

/** The document's terms, but for the texts of commands: the group, the sequence, parts, undo, exceptions. */
final class TermsBoundaries {
    /** Least common multiples of the moduli 1 to 6, a row for each a. */
    static final int[][] MULTIPLES = {
        {1, 2, 3, 4, 5, 6}, {2, 2, 6, 4, 10, 6}, {3, 6, 3, 12, 15, 6},
        {4, 4, 12, 4, 20, 12}, {5, 10, 15, 20, 5, 30}, {6, 6, 6, 12, 30, 6}};

    private TermsBoundaries() {
    }

    static void all() {
        calls();
        numbers();
        rows();
        moduli();
        elements();
        sums();
        nothing();
        orders();
        lengthOfSequence();
        sumsOfSets();
        free();
        blocks();
        splits();
        lengths();
        parts();
        goodParts();
        saved();
        savedBefore();
        latestFour();
        refusedCalls();
        firstException();
        none();
    }

    private static void calls() {
        Check.test("What it is", "An object is used for at most 512 calls after it has been made; what later calls answer is free.", () -> {
            ZeroParts z = new ZeroParts();
            ZeroParts twin = new ZeroParts();
            for (int call = 1; call < 511; call += 2) {
                z.add(5);
                z.removeAt(0);
            }
            z.add(4);
            twin.add(5);
            twin.removeAt(0);
            twin.add(5);
            twin.removeAt(0);
            twin.add(4);
            Check.same("the 512th call", z.digest(), twin.digest());
            ZeroParts full = State.times(5, 1, 1, 10).byCalls();
            long first = full.digest();
            for (int call = 13; call < 512; call++) {
                full.digest();
            }
            Check.same("digest as the 512th call", full.digest(), first);
        });
    }

    private static void numbers() {
        Check.test("Terms", "All numbers are whole.", () -> {
            for (Method method : ZeroParts.class.getDeclaredMethods()) {
                if (Modifier.isPublic(method.getModifiers())) {
                    boolean isCross = method.getName().equals("cross");
                    boolean isWhole = method.getReturnType() == int.class || method.getReturnType() == long.class;
                    Check.isTrue(method.getName() + " answers whole numbers", isWhole != isCross);
                }
            }
        });
    }

    private static void rows() {
        Check.test("Terms", "A sequence is a row in which elements may stand more than once; ", () -> {
            ZeroParts z = State.times(3, 1, 2, 10).byCalls();
            Check.sameText("ten times 2", Answers.elements(z), "2 2 2 2 2 2 2 2 2 2");
            Check.sameText("there and back", Answers.elements(State.of(6, 1, 4, 0, 4).byCalls()), "4 0 4");
        });
        Check.test("Terms", "sets of its places are bit masks: bit k is for the place k.", () -> {
            ZeroParts ten = State.of(6, 2, 1, 2, 3, 4, 5, 6, 7, 8, 9, 10).byCalls();
            for (int place = 0; place < 10; place++) {
                Check.same("sum of the place " + place, ten.set(1 << place, 1), place + 1);
                ten.lay(place, 5);
                Check.same("part up to the place " + place, ten.part(5, 0), (2 << place) - 1);
            }
        });
    }

    private static void moduli() {
        Check.test("THE GROUP", "The group has two moduli a and b (1 to 6 each; 6 and 1 at first).", () -> {
            ZeroParts z = new ZeroParts();
            Check.same("a at first", z.whole(0), 6);
            Check.same("b at first", z.whole(1), 1);
            for (int a = 1; a <= 6; a++) {
                for (int b = 1; b <= 6; b++) {
                    z.begin(a, b);
                    Check.same("a of " + a + " and " + b, z.whole(0), a);
                    Check.same("b of " + a + " and " + b, z.whole(1), b);
                }
            }
        });
    }

    private static void elements() {
        Check.test("THE GROUP", "Its elements are the pairs (x, y) with x from 0 to a - 1 and y from 0 to b - 1; the element (x, y) has the number a * y + x.", () -> {
            for (int a = 1; a <= 6; a++) {
                for (int b = 1; b <= 6; b++) {
                    ZeroParts z = State.of(a, b).byCalls();
                    for (int y = 0; y < b; y++) {
                        for (int x = 0; x < a; x++) {
                            Check.same("(" + x + ", 0) + (0, " + y + ") in " + a + " and " + b, z.sum(x, a * y), a * y + x);
                        }
                    }
                    Check.same("the last element of " + a + " and " + b, z.add(a * b - 1), 0);
                    int count = a * b;
                    Check.failsOnIndex(z, "one more in " + a + " and " + b, () -> z.add(count));
                }
            }
        });
    }

    private static void sums() {
        Check.test("THE GROUP", "The sum of two elements is taken place by place, modulo a and modulo b.", () -> {
            for (int a = 1; a <= 6; a++) {
                for (int b = 1; b <= 6; b++) {
                    ZeroParts z = State.of(a, b).byCalls();
                    for (int one = 0; one < a * b; one++) {
                        for (int other = 0; other < a * b; other++) {
                            int want = a * ((one / a + other / a) % b) + (one % a + other % a) % a;
                            Check.same(one + " + " + other + " in " + a + " and " + b, z.sum(one, other), want);
                        }
                    }
                }
            }
        });
    }

    private static void nothing() {
        Check.test("THE GROUP", "The element 0 is nothing.", () -> {
            ZeroParts z = State.of(6, 6, 0).byCalls();
            for (int e = 0; e < 36; e++) {
                Check.same(e + " and nothing", z.sum(e, 0), e);
                Check.same("nothing and " + e, z.sum(0, e), e);
            }
            Check.same("a place of nothing is a block", z.set(1, 2), 1);
        });
    }

    private static void orders() {
        Check.test("THE GROUP", "The order of an element is how often it must be taken so that the sum is nothing (at least once).", () -> {
            for (int a = 1; a <= 6; a++) {
                for (int b = 1; b <= 6; b++) {
                    ZeroParts z = State.of(a, b).byCalls();
                    for (int e = 0; e < a * b; e++) {
                        int times = 1;
                        while (times * (e % a) % a != 0 || times * (e / a) % b != 0) {
                            times++;
                        }
                        Check.same("order of " + e + " in " + a + " and " + b, z.element(e, 0), times);
                    }
                    Check.same("order of nothing in " + a + " and " + b, z.element(0, 0), 1);
                }
            }
        });
        Check.test("THE GROUP", "The exponent is the least number that all orders divide.", () -> {
            for (int a = 1; a <= 6; a++) {
                for (int b = 1; b <= 6; b++) {
                    ZeroParts z = State.of(a, b).byCalls();
                    Check.same("exponent of " + a + " and " + b, z.whole(3), MULTIPLES[a - 1][b - 1]);
                }
            }
        });
    }

    private static void lengthOfSequence() {
        Check.test("THE SEQUENCE", "A sequence has at most 10 elements, at places from 0.", () -> {
            ZeroParts z = new ZeroParts();
            for (int place = 0; place < 10; place++) {
                Check.same("place of the next element", z.add(5), place);
            }
            Check.failsOnState(z, "the eleventh element", () -> z.add(5));
            Check.same("elements after it", z.whole(4), 10);
            ZeroParts run = new ZeroParts();
            Check.same("run of eleven adds", Answers.run(run, "add 1;".repeat(11)), 10);
            Check.same("elements after the run", run.whole(4), 10);
        });
    }

    private static void sumsOfSets() {
        Check.test("THE SEQUENCE", "A set of places sums to the sum of the elements there; the empty set sums to nothing.", () -> {
            Check.same("the empty set of nothing", new ZeroParts().set(0, 1), 0);
            ZeroParts z = State.of(3, 4, 5, 11, 5, 8, 1, 0, 2, 11, 11, 11).byCalls();
            Check.same("the empty set of ten", z.set(0, 1), 0);
            Check.same("(2, 1) + (2, 3)", z.set(3, 1), 1);
            Check.same("the places 0 and 9", z.set(513, 1), 1);
            // x: 2 2 2 2 1 0 2 2 2 2 is 17, y: 1 3 1 2 0 0 0 3 3 3 is 16
            Check.same("all ten", z.set(1023, 1), 2);
            Check.same("all but the place 9", z.set(511, 1), 3);
        });
    }

    private static void free() {
        Check.test("THE SEQUENCE", "A sequence is free if no set of places but the empty one sums to nothing.", () -> {
            Check.same("nothing is free", new ZeroParts().whole(6), 1);
            Check.same("0 alone is not", State.of(6, 1, 0).byCalls().whole(6), 0);
            Check.same("1 alone is", State.of(6, 1, 1).byCalls().whole(6), 1);
            Check.same("five times 1 is", State.times(6, 1, 1, 5).byCalls().whole(6), 1);
            Check.same("six times 1 is not", State.times(6, 1, 1, 6).byCalls().whole(6), 0);
            Check.same("0 at the first place", State.of(6, 1, 0, 1, 1).byCalls().whole(6), 0);
            Check.same("0 at the last place", State.of(6, 1, 1, 1, 0).byCalls().whole(6), 0);
            Check.same("1 5 among others", State.of(6, 1, 2, 1, 2, 5).byCalls().whole(6), 0);
            Check.same("ten of 36", State.of(6, 6, 1, 1, 1, 1, 1, 6, 6, 6, 6, 6).byCalls().whole(6), 1);
            Check.same("ten of 36, all together nothing", State.of(6, 6, 1, 1, 1, 1, 1, 6, 6, 6, 6, 13).byCalls().whole(6), 0);
        });
    }

    private static void blocks() {
        Check.test("THE SEQUENCE", "A block is a set of places that is not empty, sums to nothing, and contains no other set that is not empty and sums to nothing.", () -> {
            Check.same("the empty set of nothing", new ZeroParts().set(0, 2), 0);
            ZeroParts z = State.of(6, 1, 0, 1, 5, 2, 4, 3).byCalls();
            Check.same("the empty set", z.set(0, 2), 0);
            Check.same("the place of 0", z.set(1, 2), 1);
            Check.same("1 5", z.set(6, 2), 1);
            Check.same("0 1 5", z.set(7, 2), 0);
            Check.same("1 5 2 4", z.set(30, 2), 0);
            Check.same("1 2 3", z.set(2 + 8 + 32, 2), 1);
            Check.same("1 2", z.set(2 + 8, 2), 0);
            ZeroParts ten = State.times(5, 2, 6, 10).byCalls();
            Check.same("ten of the order 10", ten.set(1023, 2), 1);
            Check.same("nine of them", ten.set(1022, 2), 0);
            Check.same("ten of the order 5", State.times(5, 1, 1, 10).byCalls().set(1023, 2), 0);
            // Blocks of what stood at the same places before are forgotten.
            int[][] rows = {{1, 0, 5}, {1, 5, 0}, {1, 5}, {0}, {1, 2, 3}, {5, 5, 5, 1}, {3, 3, 3, 0, 0}, {3, 1, 3, 5}, {1, 1, 1}, {1, 1, 4, 1}};
            ZeroParts one = new ZeroParts();
            for (int[] row : rows) {
                for (int place = one.whole(4) - 1; place >= 0; place--) {
                    one.removeAt(place);
                }
                for (int element : row) {
                    one.add(element);
                }
                Check.sameText("blocks of the next row", Answers.state(one), Answers.state(State.of(6, 1, row).byCalls()));
            }
        });
    }

    private static void splits() {
        Check.test("THE SEQUENCE", "A split of a set of places is a way to part it into blocks, the order of which does not matter (places are told apart, elements at them or not).", () -> {
            Check.same("splits of ten zeros", State.times(1, 1, 0, 10).byCalls().set(1023, 4), 1);
            Check.same("splits of two ones", State.times(2, 1, 1, 2).byCalls().set(3, 4), 1);
            Check.same("splits of four ones into pairs", State.times(2, 1, 1, 4).byCalls().set(15, 4), 3);
            Check.same("splits of ten ones into pairs", State.times(2, 1, 1, 10).byCalls().set(1023, 4), 945);
            // into pairs: 5! ways; or 111, 222 and two pairs: 10 * 10 * 2 ways
            ZeroParts fives = State.of(3, 1, 1, 1, 1, 1, 1, 2, 2, 2, 2, 2).byCalls();
            Check.same("splits of 1 and 2 five times each", fives.set(1023, 4), 320);
        });
    }

    private static void lengths() {
        Check.test("THE SEQUENCE", "The lengths of a set are the numbers of blocks of its splits; ", () -> {
            Check.same("lengths of ten zeros", State.times(1, 1, 0, 10).byCalls().set(1023, 3), 1 << 10);
            ZeroParts fives = State.of(3, 1, 1, 1, 1, 1, 1, 2, 2, 2, 2, 2).byCalls();
            Check.same("lengths of 1 and 2 five times each", fives.set(1023, 3), 1 << 5 | 1 << 4);
            Check.same("lengths of one block", State.times(6, 1, 1, 6).byCalls().set(63, 3), 2);
            Check.same("lengths of what has no split", State.of(6, 1, 1, 5, 1).byCalls().set(7, 3), 0);
        });
        Check.test("THE SEQUENCE", "the empty set has just one split, with 0 blocks.", () -> {
            ZeroParts none = new ZeroParts();
            ZeroParts fives = State.of(3, 1, 1, 1, 1, 1, 1, 2, 2, 2, 2, 2).byCalls();
            Check.same("splits of the empty set of nothing", none.set(0, 4), 1);
            Check.same("lengths of the empty set of nothing", none.set(0, 3), 1);
            Check.same("splits of the empty set", fives.set(0, 4), 1);
            Check.same("lengths of the empty set", fives.set(0, 3), 1);
            fives.begin(6, 6);
            Check.same("splits of the empty set in a new group", fives.set(0, 4), 1);
            Check.same("lengths of the empty set in a new group", fives.set(0, 3), 1);
        });
    }

    private static void parts() {
        Check.test("PARTS", "Each place belongs to a part, 0 to 5 (part 0 at first).", () -> {
            ZeroParts z = State.times(6, 1, 3, 10).byCalls();
            Check.sameText("parts at first", Answers.parts(z), "0 0 0 0 0 0 0 0 0 0");
            for (int place = 0; place < 10; place++) {
                z.lay(place, place % 6);
            }
            Check.sameText("parts", Answers.parts(z), "0 1 2 3 4 5 0 1 2 3");
            int places = 0;
            for (int part = 0; part <= 5; part++) {
                Check.same("places of part " + part + " in no part before", z.part(part, 0) & places, 0);
                places |= z.part(part, 0);
            }
            Check.same("places of all parts", places, 1023);
        });
    }

    private static void goodParts() {
        Check.test("PARTS", "A part is good if its places are a block; it is empty if no place belongs to it.", () -> {
            ZeroParts none = new ZeroParts();
            ZeroParts z = State.of(6, 1, 0, 1, 5, 2, 4, 3).laid(1, 2, 2, 3, 3, 4).byCalls();
            int[] good = {0, 1, 1, 1, 0, 0};
            int[] reasons = {1, 0, 0, 0, 2, 1};
            for (int part = 0; part <= 5; part++) {
                Check.same("empty part " + part + " good", none.part(part, 2), 0);
                Check.same("empty part " + part, none.reason(part), 1);
                Check.same("part " + part + " good", z.part(part, 2), good[part]);
                Check.same("reason of part " + part, z.reason(part), reasons[part]);
            }
            z.lay(3, 2);
            z.lay(4, 2);
            Check.same("1 5 2 4 good", z.part(2, 2), 0);
            Check.same("part 3, now empty", z.reason(3), 1);
        });
    }

    private static void saved() {
        Check.test("UNDO", "Every method that is marked \"undoable\" saves the whole state but the command text on an undo stack when it ends normally, also if it changes nothing.", () -> {
            State some = State.of(6, 2, 3, 3, 0, 7).laid(0, 0, 1, 5);
            State none = State.of(6, 2);
            Answers.savesOne(some, "begin(6, 2)", z -> z.begin(6, 2));
            Answers.savesOne(none, "begin(6, 2) that changes nothing", z -> z.begin(6, 2));
            Answers.savesOne(some, "add(7)", z -> z.add(7));
            Answers.savesOne(none, "add(7) to nothing", z -> z.add(7));
            Answers.savesOne(some, "removeAt(0)", z -> z.removeAt(0));
            Answers.savesOne(State.of(6, 2, 3), "removeAt(0) of the only", z -> z.removeAt(0));
            Answers.savesOne(some, "lay(3, 0)", z -> z.lay(3, 0));
            Answers.savesOne(some, "lay(3, 5) that changes nothing", z -> z.lay(3, 5));
            Answers.savesOne(State.of(6, 2, 3, 3, 0).laid(4, 4, 4), "laySplit()", z -> z.laySplit());
            Answers.savesOne(State.of(6, 2, 3, 3, 0).laid(0, 0, 1), "laySplit() that changes nothing", z -> z.laySplit());
            Answers.savesOne(none, "laySplit() of nothing", z -> z.laySplit());
            Answers.savesOne(some, "a run of two", z -> Answers.run(z, "add 1;minus 0;"));
            Answers.savesOne(some, "a run that changes nothing", z -> Answers.run(z, "lay 3 5;"));
            Answers.savesOne(some, "a run of nothing", z -> Answers.run(z, ""));
            Answers.savesOne(some, "a run whose first command would throw", z -> Answers.run(z, "minus 4;"));
            ZeroParts z = new ZeroParts();
            z.add(1);
            Answers.type(z, "add 2");
            z.undo();
            Check.same("text after undo", z.whole(13), 5);
            z.type(';');
            Check.same("run of the text that stayed", z.runCommands(), 1);
            z.clearCommands();
            z.undo();
            Check.same("a text that was cleared after the state was saved", z.whole(13), 0);
        });
    }

    private static void savedBefore() {
        Check.test("UNDO", "The saved state is the one from before the call.", () -> {
            ZeroParts z = new ZeroParts();
            z.add(4);
            z.lay(0, 3);
            z.begin(2, 3);
            z.undo();
            Check.sameText("elements before begin", Answers.elements(z), "4");
            Check.sameText("parts before begin", Answers.parts(z), "3");
            Check.same("a before begin", z.whole(0), 6);
            z.undo();
            Check.sameText("parts before lay", Answers.parts(z), "0");
            z.undo();
            Check.same("elements before add", z.whole(4), 0);
        });
    }

    private static void latestFour() {
        Check.test("UNDO", "The stack keeps the latest 4 saved states and drops older ones.", () -> {
            for (int calls = 1; calls <= 10; calls++) {
                ZeroParts z = new ZeroParts();
                for (int call = 0; call < calls; call++) {
                    z.add(call % 6);
                }
                int kept = Math.min(4, calls);
                for (int back = 1; back <= kept; back++) {
                    Check.same("undo " + back + " of " + calls, z.undo(), kept - back);
                    Check.same("elements after undo " + back + " of " + calls, z.whole(4), calls - back);
                }
                Check.failsOnState(z, "undo of the fifth of " + calls, () -> z.undo());
            }
            // Undone states make room: two go, three come, and just one of the oldest is dropped.
            ZeroParts z = State.of(6, 1, 0, 1, 2).byCalls();
            z.undo();
            z.undo();
            z.add(3);
            z.add(4);
            z.add(5);
            for (int size = 3; size >= 0; size--) {
                z.undo();
                Check.same("elements after undo of five kept", z.whole(4), size);
            }
            Check.failsOnState(z, "undo of the fifth", () -> z.undo());
        });
    }

    private static void refusedCalls() {
        Check.test("EXCEPTIONS", "A call that throws an exception changes nothing.", () -> {
            State some = State.of(6, 1, 1, 5, 2).laid(0, 3, 5);
            State full = State.times(6, 1, 1, 10);
            Answers.refusesArgument(some, "begin(0, 1)", z -> z.begin(0, 1));
            Answers.refusesArgument(some, "begin(1, 7)", z -> z.begin(1, 7));
            Answers.refusesIndex(some, "add(6)", z -> z.add(6));
            Answers.refusesState(full, "add(1)", z -> z.add(1));
            Answers.refusesIndex(some, "removeAt(3)", z -> z.removeAt(3));
            Answers.refusesIndex(some, "lay(3, 0)", z -> z.lay(3, 0));
            Answers.refusesArgument(some, "lay(0, 6)", z -> z.lay(0, 6));
            Answers.refusesState(some, "laySplit()", z -> z.laySplit());
            Answers.refusesState(State.times(6, 1, 0, 7), "laySplit() of seven", z -> z.laySplit());
            Answers.refusesIndex(some, "sum(6, 0)", z -> z.sum(6, 0));
            Answers.refusesIndex(some, "element(6, 0)", z -> z.element(6, 0));
            Answers.refusesArgument(some, "element(0, 4)", z -> z.element(0, 4));
            Answers.refusesIndex(some, "at(3, 0)", z -> z.at(3, 0));
            Answers.refusesArgument(some, "at(0, 4)", z -> z.at(0, 4));
            Answers.refusesArgument(some, "set(8, 0)", z -> z.set(8, 0));
            Answers.refusesArgument(some, "set(0, 6)", z -> z.set(0, 6));
            Answers.refusesArgument(some, "block(-1)", z -> z.block(-1));
            Answers.refusesArgument(some, "part(6, 0)", z -> z.part(6, 0));
            Answers.refusesArgument(some, "whole(14)", z -> z.whole(14));
            Answers.refusesArgument(some, "reason(6)", z -> z.reason(6));
            Answers.refusesIndex(some, "blocksWith(6, 1)", z -> z.blocksWith(6, 1));
            Answers.refusesArgument(some, "blocksWith(0, 12)", z -> z.blocksWith(0, 12));
            Answers.refusesArgument(some, "alike(8, 0)", z -> z.alike(8, 0));
            Answers.refusesArgument(some, "type(128)", z -> z.type(128));
            refusedTextAndUndo();
        });
    }

    private static void refusedTextAndUndo() {
        ZeroParts z = new ZeroParts();
        Answers.type(z, "add 1;".repeat(25));
        Check.failsOnState(z, "type of the 151st byte", () -> z.type('?'));
        Check.same("run of the full text", z.runCommands(), 10);
        z.undo();
        Check.failsOnState(z, "undo of nothing", () -> z.undo());
        Check.same("elements after the refused undo", z.whole(4), 0);
        Check.same("text after the refused undo", z.whole(13), 150);
        Check.same("run after the refused undo", z.runCommands(), 10);
    }

    private static void firstException() {
        Check.test("EXCEPTIONS", "If several exceptions of a method apply, the one that is listed first is thrown.", () -> {
            State full = State.times(6, 1, 1, 10);
            State some = State.of(6, 1, 1, 5);
            Answers.refusesIndex(full, "add(6) to a full sequence", z -> z.add(6));
            Answers.refusesIndex(full, "add(-1) to a full sequence", z -> z.add(-1));
            Answers.refusesIndex(some, "lay(2, 6)", z -> z.lay(2, 6));
            Answers.refusesIndex(some, "lay(-1, -1)", z -> z.lay(-1, -1));
            Answers.refusesIndex(some, "element(6, 4)", z -> z.element(6, 4));
            Answers.refusesIndex(some, "element(-1, -1)", z -> z.element(-1, -1));
            Answers.refusesIndex(some, "at(2, 4)", z -> z.at(2, 4));
            Answers.refusesIndex(some, "at(-1, -1)", z -> z.at(-1, -1));
            Answers.refusesIndex(some, "blocksWith(6, 12)", z -> z.blocksWith(6, 12));
            Answers.refusesIndex(some, "blocksWith(-1, 0)", z -> z.blocksWith(-1, 0));
            ZeroParts z = new ZeroParts();
            Answers.type(z, " ".repeat(150));
            Check.failsOnArgument(z, "type(128) to a full text", () -> z.type(128));
            Check.failsOnArgument(z, "type(-1) to a full text", () -> z.type(-1));
        });
    }

    private static void none() {
        Check.test("EXCEPTIONS", "NONE is returned only if no exception applies.", () -> {
            State free = State.of(6, 1, 1, 1);
            Answers.refusesArgument(free, "block(-1) without blocks", z -> z.block(-1));
            Answers.refusesArgument(State.of(6, 1), "block(-1) of nothing", z -> z.block(-1));
        });
        Check.test("EXCEPTIONS", "The constants: `NONE = -1`: Returned where there is no such value.", () -> {
            Check.same("NONE", ZeroParts.NONE, -1);
            Check.same("block(0) of nothing", new ZeroParts().block(0), -1);
            Check.same("block(0) without blocks", State.of(6, 1, 1, 1).byCalls().block(0), -1);
            Check.same("freeElement() without one", State.of(6, 1, 0).byCalls().freeElement(), -1);
        });
    }
}
