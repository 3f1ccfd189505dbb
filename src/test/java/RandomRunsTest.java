/** Runs of calls, drawn by a fixed rule, on a ZeroParts and on the Model side by side. */
public final class RandomRunsTest {
    private static final int RUNS = 150;
    private static final int CALLS = 500;
    private static final int[] ODD_ONES = {-1, -2, Integer.MIN_VALUE, Integer.MAX_VALUE, 1 << 30, 1024, 150};

    private static long seed = 20261119L;
    private static ZeroParts real;
    private static Model model;
    private static int run;
    private static int callsLeft;

    public static void main(String[] args) {
        for (run = 0; run < RUNS; run++) {
            real = new ZeroParts();
            model = new Model();
            callsLeft = CALLS;
            while (callsLeft > 0) {
                step();
            }
        }
        Check.finish();
    }

    private static int draw(int limit) {
        seed = seed * 6364136223846793005L + 1442695040888963407L;
        return (int) ((seed >>> 33) % limit);
    }

    /** Mostly a number from 0 to the limit, and now and then one far off. */
    private static int drawArgument(int limit) {
        return draw(25) == 0 ? ODD_ONES[draw(ODD_ONES.length)] : draw(limit + 1);
    }

    /** Some runs stay in one small group, so that sequences have many blocks. */
    private static int drawModulus() {
        return run % 3 == 0 ? 1 + draw(3) : drawArgument(7);
    }

    private static int drawElement() {
        int count = model.whole(2);
        switch (draw(5)) {
            case 0:
                return drawArgument(count);
            case 1:
                return model.whole(4) > 0 ? model.at(draw(model.whole(4)), 0) : draw(count);
            case 2:
                return model.element(model.whole(5), 1);
            case 3:
                return Math.min(1, count - 1);
            default:
                return draw(count);
        }
    }

    private static int drawSet() {
        int all = (1 << model.whole(4)) - 1;
        return draw(4) == 0 ? all : drawArgument(all + 1);
    }

    private static void same(String call, Check.Call got, Check.Call want) {
        callsLeft--;
        Check.sameText("run " + run + ", " + (CALLS - callsLeft) + ": " + call, Check.answerOf(got), Check.answerOf(want));
    }

    private static void step() {
        int kind = draw(100);
        if (kind < 45) {
            change(kind);
        } else if (kind < 90) {
            ask(draw(15));
        } else if (kind < 97) {
            same("digest()", () -> real.digest(), () -> model.digest());
        } else {
            typeAndRun();
        }
    }

    private static void change(int kind) {
        if (kind < 3) {
            int a = drawModulus();
            int b = drawModulus();
            same("begin(" + a + ", " + b + ")", () -> real.begin(a, b), () -> model.begin(a, b));
        } else if (kind < 24) {
            int e = drawElement();
            same("add(" + e + ")", () -> real.add(e), () -> model.add(e));
        } else if (kind < 29) {
            int p = drawArgument(model.whole(4));
            same("removeAt(" + p + ")", () -> real.removeAt(p), () -> model.removeAt(p));
        } else if (kind < 36) {
            int p = drawArgument(model.whole(4));
            int q = drawArgument(6);
            same("lay(" + p + ", " + q + ")", () -> real.lay(p, q), () -> model.lay(p, q));
        } else if (kind < 41) {
            same("laySplit()", () -> real.laySplit(), () -> model.laySplit());
        } else {
            same("undo()", () -> real.undo(), () -> model.undo());
        }
    }

    private static void ask(int kind) {
        int e = drawElement();
        int other = drawElement();
        int what = drawArgument(4);
        int place = drawArgument(model.whole(4));
        int one = drawSet();
        int two = drawSet();
        int wide = drawArgument(14);
        switch (kind) {
            case 0:
                same("sum(" + e + ", " + other + ")", () -> real.sum(e, other), () -> model.sum(e, other));
                break;
            case 1:
                same("element(" + e + ", " + what + ")", () -> real.element(e, what), () -> model.element(e, what));
                break;
            case 2:
                same("bound()", () -> real.bound(), () -> model.bound());
                break;
            case 3:
                same("at(" + place + ", " + what + ")", () -> real.at(place, what), () -> model.at(place, what));
                break;
            case 4:
            case 5:
                int many = drawArgument(6);
                same("set(" + one + ", " + many + ")", () -> real.set(one, many), () -> model.set(one, many));
                break;
            case 6:
                same("block(" + wide + ")", () -> real.block(wide), () -> model.block(wide));
                break;
            case 7:
                int part = drawArgument(6);
                same("part(" + part + ", " + what + ")", () -> real.part(part, what), () -> model.part(part, what));
                same("reason(" + part + ")", () -> real.reason(part), () -> model.reason(part));
                break;
            case 8:
                same("whole(" + wide + ")", () -> real.whole(wide), () -> model.whole(wide));
                break;
            case 9:
                same("sums()", () -> real.sums(), () -> model.sums());
                break;
            case 10:
                same("cross()", () -> Double.doubleToLongBits(real.cross()), () -> Double.doubleToLongBits(model.cross()));
                break;
            case 11:
                same("freeElement()", () -> real.freeElement(), () -> model.freeElement());
                same("freeFor()", () -> real.freeFor(), () -> model.freeFor());
                break;
            case 12:
                int places = drawArgument(12);
                same("blocksWith(" + e + ", " + places + ")", () -> real.blocksWith(e, places), () -> model.blocksWith(e, places));
                break;
            case 13:
                same("alike(" + one + ", " + two + ")", () -> real.alike(one, two), () -> model.alike(one, two));
                break;
            default:
                same("unlikeBlocks()", () -> real.unlikeBlocks(), () -> model.unlikeBlocks());
                break;
        }
    }

    private static String drawCommand() {
        String gap = "   ".substring(draw(3));
        switch (draw(8)) {
            case 0:
                return "group " + (1 + draw(6)) + gap + (1 + draw(6)) + ";";
            case 1:
                return gap + "minus " + draw(4) + ";";
            case 2:
                return "lay" + gap + draw(8) + " 0" + draw(6) + ";";
            case 3:
                return "split" + (draw(2) == 0 ? ";" : " ;");
            default:
                return "add " + drawElement() + ";";
        }
    }

    private static void typeAndRun() {
        if (draw(2) == 0) {
            same("clearCommands()", () -> real.clearCommands(), () -> model.clearCommands());
        }
        StringBuilder typed = new StringBuilder();
        for (int k = draw(5); k > 0; k--) {
            typed.append(drawCommand());
        }
        if (typed.length() > 0 && draw(3) == 0) {
            String noise = " ;09azgsA\t";
            typed.setCharAt(draw(typed.length()), noise.charAt(draw(noise.length())));
        }
        if (typed.length() > 0 && draw(4) == 0) {
            typed.setLength(draw(typed.length()));
        }
        for (int k = 0; k < typed.length() && callsLeft > 4; k++) {
            int value = draw(200) == 0 ? drawArgument(130) : typed.charAt(k);
            same("type(" + value + ")", () -> real.type(value), () -> model.type(value));
        }
        same("runCommands() of '" + model.text() + "'", () -> real.runCommands(), () -> model.runCommands());
        same("digest()", () -> real.digest(), () -> model.digest());
    }
}
