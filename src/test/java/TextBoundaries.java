/** The document's sentences on texts of commands. */
final class TextBoundaries {
    private static final String HEADING = "TEXTS OF COMMANDS";

    private TextBoundaries() {
    }

    static void all() {
        length();
        noCommand();
        words();
        numbers();
        digits();
        thirdDigit();
        spacesBeforeNumbers();
        semicolons();
        spaces();
        kinds();
        faultAtByte();
        faultAtEnd();
        unknownWords();
        wordsByNextByte();
        numbersOutOfRange();
        nothingDone();
        inOrder();
        untilOneWouldThrow();
        countsThoseBefore();
        savesOne();
    }

    /** The fault of this text, or NONE. */
    private static void fault(String text, int want) {
        ZeroParts z = new ZeroParts();
        Answers.type(z, text);
        int answer = z.runCommands();
        Check.same("fault of '" + text + "'", answer <= -10 ? -10 - answer : -1, want);
    }

    private static void runs(String text, int want) {
        Check.same("run of '" + text + "'", Answers.run(new ZeroParts(), text), want);
    }

    private static void length() {
        Check.test(HEADING, "The command text has at most 150 bytes.", () -> {
            ZeroParts z = new ZeroParts();
            Answers.type(z, "add 1;".repeat(25));
            Check.same("length of a full text", z.whole(13), 150);
            Check.failsOnState(z, "the 151st byte", () -> z.type(' '));
            runs("split;".repeat(25), 25);
            runs(" ".repeat(144) + "add 1;", 1);
            runs("add" + " ".repeat(145) + "1;", 1);
            runs("add 1" + " ".repeat(144) + ";", 1);
            runs("add 1;" + " ".repeat(144), 1);
            fault(" ".repeat(149) + ";", 149);
            fault(" ".repeat(145) + "add 1", 150);
        });
    }

    private static void noCommand() {
        Check.test(HEADING, "It is a sequence of commands (perhaps none: a text that is empty, or has spaces alone, has no fault)", () -> {
            runs("", 0);
            runs(" ", 0);
            runs(" ".repeat(149), 0);
            runs(" ".repeat(150), 0);
            fault("\n", 0);
            fault("  \0", 2);
        });
    }

    private static void words() {
        Check.test(HEADING, ", each of which is a word of letters a to z, ", () -> {
            runs("add 1;", 1);
            fault("Add 1;", 0);
            fault("aDd 1;", 0);
            fault("ADD 1;", 0);
            fault("`add 1;", 0);
            fault("{add 1;", 0);
            fault("a`d 1;", 0);
            fault("a{d 1;", 0);
            fault("1;", 0);
            fault(" ;", 1);
            fault("add 1;;", 6);
            fault("add 1; 2;", 7);
            fault("\u007f", 0);
        });
    }

    private static void numbers() {
        Check.test(HEADING, "followed by its numbers, ", () -> {
            runs("group 2 3;add 1;lay 0 1;minus 0;split;", 5);
            fault("group;", 5);
            fault("group 2;", 7);
            fault("group 2 ;", 8);
            fault("group 2 3 4;", 10);
            fault("add;", 3);
            fault("add ;", 4);
            fault("add 1 2;", 6);
            fault("minus;", 5);
            fault("minus 1 2;", 8);
            fault("lay;", 3);
            fault("lay 1;", 5);
            fault("lay 1 2 3;", 8);
            fault("split 1;", 6);
            fault("add x;", 4);
            fault("add -1;", 4);
            fault("add +1;", 4);
            fault("add /;", 4);
            fault("add :;", 4);
            fault("add 1/;", 5);
            fault("add 1:;", 5);
        });
    }

    private static void digits() {
        Check.test(HEADING, "each of one or two digits (zeros in front are allowed; ", () -> {
            State state = State.of(6, 6);
            String[] texts = {"add 0;", "add 00;", "add 9;", "add 09;", "add 10;", "add 19;", "add 30;", "add 35;"};
            int[] elements = {0, 0, 9, 9, 10, 19, 30, 35};
            for (int k = 0; k < texts.length; k++) {
                ZeroParts z = state.byCalls();
                Check.same("run of " + texts[k], Answers.run(z, texts[k]), 1);
                Check.same("element of " + texts[k], z.at(0, 0), elements[k]);
            }
            runs("group 06 05;", 1);
            fault("add ;", 4);
        });
    }

    private static void thirdDigit() {
        Check.test(HEADING, "a third digit cannot stand) ", () -> {
            fault("add 123;", 6);
            fault("add 000;", 6);
            fault("add 001;", 6);
            fault("add 1234;", 6);
            fault("group 123 1;", 8);
            fault("group 1 123;", 10);
            fault("lay 012 3;", 6);
            fault("lay 12 345;", 9);
            fault("minus 100", 8);
            fault("add 12", 6);
        });
    }

    private static void spacesBeforeNumbers() {
        Check.test(HEADING, "and with at least one space (byte 32) in front, ", () -> {
            runs("add 1;", 1);
            runs("add  1;", 1);
            runs("group     2      3;", 1);
            fault("add1;", 3);
            fault("group2 3;", 5);
            fault("lay 1\t2;", 5);
            for (int value = 0; value < 128; value++) {
                boolean isLetter = value >= 'a' && value <= 'z';
                if (value != ' ' && !isLetter) {
                    fault("add" + (char) value + "1;", 3);
                    fault("add " + (char) value + ";", value >= '0' && value <= '9' ? -1 : 4);
                }
            }
        });
    }

    private static void semicolons() {
        Check.test(HEADING, "and a semicolon.", () -> {
            runs("add 1;add 2;", 2);
            fault("add 1", 5);
            fault("split", 5);
            fault("add 1 add 2;", 6);
            fault("add 1add 2;", 5);
            fault("split split;", 6);
            for (int value = 0; value < 128; value++) {
                boolean isDigit = value >= '0' && value <= '9';
                if (value != ';' && value != ' ' && !isDigit) {
                    fault("add 1" + (char) value, 5);
                }
            }
        });
    }

    private static void spaces() {
        Check.test(HEADING, "Spaces may also stand in front of a command, in front of a semicolon, and at the end.", () -> {
            runs(" add 1;", 1);
            runs("add 1; add 1;", 2);
            runs("     add 1;     add 1;", 2);
            runs("add 1 ;", 1);
            runs("add 1     ;", 1);
            runs("split ;", 1);
            runs("split     ;", 1);
            runs("add 1; ", 1);
            runs("add 1;     ", 1);
            runs(" group  3  3  ; add  1 ;  split  ; ", 2);
            spacesElsewhere();
        });
    }

    /** No other spaces, and none but byte 32. */
    private static void spacesElsewhere() {
        fault("ad d 1;", 0);
        fault("spl it;", 0);
        fault(" ad", 1);
        fault("add 1 2;", 6);
        fault("lay 1 2 3;", 8);
        fault("\tadd 1;", 0);
        fault("add 1\t;", 5);
        fault("split\n;", 5);
        fault("add 1;\t", 6);
        fault("add 1;\n", 6);
    }

    private static void kinds() {
        Check.test(HEADING, "The words are: group a b (begin(a, b)), add e (add(e)), minus p (removeAt(p)), lay p q (lay(p, q)), split (laySplit()).", () -> {
            ZeroParts z = State.of(6, 1, 1).byCalls();
            Check.same("group 3 4", Answers.run(z, "group 3 4;"), 1);
            Check.same("a after group 3 4", z.whole(0), 3);
            Check.same("b after group 3 4", z.whole(1), 4);
            Check.same("elements after group 3 4", z.whole(4), 0);
            Check.same("adds", Answers.run(z, "add 11;add 4;add 1;"), 3);
            Check.sameText("elements after the adds", Answers.elements(z), "11 4 1");
            Check.same("lay 1 2", Answers.run(z, "lay 1 2;"), 1);
            Check.sameText("parts after lay 1 2", Answers.parts(z), "0 2 0");
            Check.same("minus 0", Answers.run(z, "minus 0;"), 1);
            Check.sameText("elements after minus 0", Answers.elements(z), "4 1");
            Check.sameText("parts after minus 0", Answers.parts(z), "2 0");
            Check.same("split", Answers.run(z, "add 2;add 11;split;"), 3);
            Check.sameText("parts after split", Answers.parts(z), "0 1 1 0");
            String[] others = {"begin 1 1;", "removeat 0;", "laysplit;", "undo;", "sum 0 0;", "type 1;", "adds 1;", "ad 1;", "a 1;"};
            for (String other : others) {
                fault(other, 0);
            }
        });
    }

    private static void faultAtByte() {
        Check.test(HEADING, "The fault of a command text is the index of the first byte that cannot stand at its place, ", () -> {
            fault("?", 0);
            fault("add 1;?", 6);
            fault("add 1;?;?", 6);
            fault("add 1?;split", 5);
            fault("add 1; split ; lay 1 ; ?", 21);
            fault("add 1;".repeat(24) + "add 1?", 149);
            fault("?" + " ".repeat(149), 0);
            // Of several faults the first.
            fault("add 1 add 2", 6);
            fault("add 1 add ?", 6);
            fault("add ? add ?", 4);
            fault("add; zz; ?", 3);
            fault("split ? split", 6);
            fault("lay 1; lay 1", 5);
            fault("lay ? ? ?", 4);
            fault("zz ?", 0);
            fault("? zz", 0);
        });
    }

    /** Each text that a faultless one begins with: the faults of those that end too soon are their lengths. */
    private static void faultAtEnd() {
        Check.test(HEADING, "or the length of the text if it ends too soon.", () -> {
            // Where the next byte would stand behind a whole command, or the word is not whole yet, it is told apart.
            String text = " group 1 02 ; add 3;split;";
            for (int end = 0; end <= text.length(); end++) {
                boolean whole = end <= 1 || end == 13 || end == 14 || end == 20 || end == 26;
                boolean inGroup = end >= 2 && end <= 5;
                boolean inAdd = end >= 15 && end <= 16;
                boolean inSplit = end >= 21 && end <= 24;
                int want = whole ? -1 : inGroup ? 1 : inAdd ? 14 : inSplit ? 20 : end;
                fault(text.substring(0, end), want);
            }
            fault("lay", 3);
            fault("lay ", 4);
            fault("lay 0", 5);
            fault("lay 0 ", 6);
            fault("lay 0 1", 7);
            fault("lay 0 1 ", 8);
            fault("minus", 5);
        });
    }

    private static void unknownWords() {
        Check.test(HEADING, "A word that is not one of these is at fault with its first byte, ", () -> {
            String[] known = {"group", "add", "minus", "lay", "split"};
            String[] numbers = {" 1 1;", " 1;", " 1;", " 1 1;", ";"};
            for (int k = 0; k < known.length; k++) {
                fault(known[k] + numbers[k], -1);
                for (int at = 0; at < known[k].length(); at++) {
                    String before = known[k].substring(0, at);
                    String behind = known[k].substring(at + 1);
                    fault(before + behind + numbers[k], 0);
                    fault(before + "z" + behind + numbers[k], 0);
                    fault(before + "z" + known[k].charAt(at) + behind + numbers[k], 0);
                }
                fault(known[k] + "s" + numbers[k], 0);
                fault(known[k] + known[k] + numbers[k], 0);
            }
            fault("z", 0);
            fault("   zz 1;", 3);
            fault("add 1; zz;", 7);
            fault("add 1;zz;", 6);
            fault("addadd", 0);
            fault("z".repeat(150), 0);
            fault(" " + "z".repeat(149), 1);
            fault(" ".repeat(149) + "z", 149);
            fault("add" + "d".repeat(147), 0);
        });
    }

    /** Whatever byte follows, or none. */
    private static void wordsByNextByte() {
        Check.test(HEADING, "found when the word is complete: when a byte that is none of a to z, or the end of the text, follows it.", () -> {
            fault("ad", 0);
            fault("  ad", 2);
            fault("add 1;spli", 6);
            fault("split;a", 6);
            for (int value = 0; value < 128; value++) {
                char next = (char) value;
                boolean isLetter = value >= 'a' && value <= 'z';
                fault("ad" + next, next == 'd' ? 3 : 0);
                fault(" la" + next, next == 'y' ? 4 : 1);
                fault("add" + next, isLetter ? 0 : next == ' ' ? 4 : 3);
                fault("split" + next, isLetter ? 0 : next == ' ' ? 6 : next == ';' ? -1 : 5);
                fault("xyz" + next + "add 1;", 0);
            }
        });
    }

    private static void numbersOutOfRange() {
        Check.test(HEADING, "(That a number is out of its range is no fault.)", () -> {
            runs("group 0 1;", 0);
            runs("group 1 7;", 0);
            runs("group 99 99;", 0);
            runs("add 6;", 0);
            runs("add 99;", 0);
            runs("minus 0;", 0);
            runs("minus 99;", 0);
            runs("lay 0 0;", 0);
            runs("lay 99 99;", 0);
            runs("add 1;lay 0 6;", 1);
            fault("add 99;?", 7);
        });
    }

    private static void nothingDone() {
        Check.test(HEADING, "To run a command text means: if it has a fault, nothing is done; ", () -> {
            String[] texts = {"add 1;add 2;add", "add 1;add 2;?", "group 2 2;lay", "minus 0;minus 0;split", "lay 0 1;lay 0 2;zz", "?"};
            State state = State.of(6, 1, 1, 5, 2).laid(0, 3, 5);
            for (String text : texts) {
                ZeroParts z = state.byCalls();
                ZeroParts twin = state.byCalls();
                Answers.type(twin, text);
                Check.isTrue("fault of '" + text + "'", Answers.run(z, text) <= -10);
                Check.sameText("what '" + text + "' leaves", Answers.whole(z), Answers.whole(twin));
            }
            // The next text is read as if there had been no fault.
            String[] faulty = {"add x", "lay 1 x", "lay x", "group 1", "group 99 99", "split", "zz", "?"};
            String[] next = {"group 6 1;", "add 0;", "minus 1;", "lay 0 1;", "split;", ""};
            for (String text : faulty) {
                for (String other : next) {
                    ZeroParts z = State.of(6, 1, 1, 5).byCalls();
                    Answers.run(z, text);
                    Check.same("run of '" + other + "' behind '" + text + "'", Answers.run(z, other), other.isEmpty() ? 0 : 1);
                }
            }
        });
    }

    private static void inOrder() {
        Check.test(HEADING, "otherwise the commands are carried out in their order, ", () -> {
            ZeroParts z = new ZeroParts();
            Check.same("run", Answers.run(z, "add 1;add 2;minus 0;add 3;group 5 2;add 9;add 1;lay 0 4;lay 0 3;"), 9);
            Check.sameText("elements", Answers.elements(z), "9 1");
            Check.sameText("parts", Answers.parts(z), "3 0");
            Check.same("a", z.whole(0), 5);
            Check.same("b", z.whole(1), 2);
        });
    }

    private static void untilOneWouldThrow() {
        Check.test(HEADING, "until one of them would throw an exception, which is not thrown; ", () -> {
            String[] throwing = {
                "group 0 1;", "group 7 1;", "group 1 0;", "group 1 7;", "add 6;", "minus 2;", "lay 2 0;", "lay 0 6;", "split;"};
            for (String command : throwing) {
                ZeroParts z = new ZeroParts();
                Check.same("run to " + command, Answers.run(z, "add 1;add 2;" + command + "add 3;"), 2);
                Check.sameText("elements after the run to " + command, Answers.elements(z), "1 2");
                Check.same("a after the run to " + command, z.whole(0), 6);
            }
            ZeroParts z = State.times(6, 1, 0, 10).byCalls();
            Check.same("add to a full sequence", Answers.run(z, "lay 0 1;add 0;lay 1 1;"), 1);
            Check.same("split into ten blocks", Answers.run(z, "lay 2 2;split;lay 3 3;"), 1);
            Check.sameText("parts after both", Answers.parts(z), "1 0 2 0 0 0 0 0 0 0");
        });
    }

    private static void countsThoseBefore() {
        Check.test(HEADING, "those before it stay done, and they alone count.", () -> {
            ZeroParts z = State.of(6, 1, 1).byCalls();
            Check.same("none before it", Answers.run(z, "minus 1;add 2;add 3;"), 0);
            Check.sameText("elements then", Answers.elements(z), "1");
            Check.same("one before it", Answers.run(z, "add 2;minus 2;add 3;"), 1);
            Check.sameText("elements then", Answers.elements(z), "1 2");
            Check.same("all before the end", Answers.run(z, "add 2;add 3;"), 2);
            Check.sameText("elements then", Answers.elements(z), "1 2 2 3");
            // The one that would throw does not count, nor do those behind it that could be carried out.
            Check.same("between others", Answers.run(z, "minus 0;minus 0;split;split;minus 0;"), 2);
            Check.sameText("elements then", Answers.elements(z), "2 3");
        });
    }

    private static void savesOne() {
        Check.test(HEADING, "A run saves one state, the one from before it; its commands save none.", () -> {
            ZeroParts z = new ZeroParts();
            Check.same("run of all words", Answers.run(z, "group 2 2;add 0;lay 0 5;split;minus 0;add 1;add 1;"), 7);
            Check.same("states left after it", z.undo(), 0);
            Check.same("a before it", z.whole(0), 6);
            Check.same("elements before it", z.whole(4), 0);
            State some = State.of(6, 1, 1, 5, 2).laid(0, 3, 5);
            Answers.savesOne(some, "a run of five", each -> Answers.run(each, "minus 0;minus 0;minus 0;add 1;add 2;"));
            Answers.savesOne(some, "a run that stops", each -> Answers.run(each, "minus 0;minus 9;"));
            Answers.savesOne(some, "a run of spaces", each -> Answers.run(each, "   "));
        });
    }
}
