import java.util.ArrayDeque;
import java.util.ArrayList;
import java.util.Arrays;
import java.util.Collections;
import java.util.Deque;
import java.util.HashSet;
import java.util.List;
import java.util.Set;
import java.util.TreeMap;
import java.util.TreeSet;
import java.util.regex.Matcher;
import java.util.regex.Pattern;

/**
 * A second ZeroParts that takes the document's words as they stand: it goes through all sets and
 * all splits for every answer, keeps nothing between calls, and shares no code with the class.
 */
final class Model {
    private static final String[] WORDS = {"group", "add", "minus", "lay", "split"};
    private static final Pattern TEXT = Pattern.compile(
            "( *(group( +[0-9]{1,2}){2}|add +[0-9]{1,2}|minus +[0-9]{1,2}|lay( +[0-9]{1,2}){2}|split) *;)* *");

    private int a = 6;
    private int b = 1;
    private List<Integer> elements = new ArrayList<>();
    private List<Integer> parts = new ArrayList<>();
    private final Deque<Model> saved = new ArrayDeque<>();
    private String text = "";

    private void save() {
        Model copy = new Model();
        copy.restore(this);
        saved.push(copy);
        if (saved.size() > 4) {
            saved.removeLast();
        }
    }

    private void restore(Model other) {
        a = other.a;
        b = other.b;
        elements = new ArrayList<>(other.elements);
        parts = new ArrayList<>(other.parts);
    }

    private int size() {
        return elements.size();
    }

    private void needElement(int e) {
        if (e < 0 || e >= a * b) {
            throw new IndexOutOfBoundsException();
        }
    }

    private void needPlace(int place) {
        if (place < 0 || place >= size()) {
            throw new IndexOutOfBoundsException();
        }
    }

    private static void need(boolean fits) {
        if (!fits) {
            throw new IllegalArgumentException();
        }
    }

    private static void needState(boolean fits) {
        if (!fits) {
            throw new IllegalStateException();
        }
    }

    private void needSet(int set) {
        need(set >= 0);
        for (int k = 0; k < 32; k++) {
            need((set >>> k & 1) == 0 || k < size());
        }
    }

    // ---- the changes, without their saved states

    private void doBegin(int newA, int newB) {
        need(newA >= 1 && newA <= 6 && newB >= 1 && newB <= 6);
        a = newA;
        b = newB;
        elements.clear();
        parts.clear();
    }

    private void doAdd(int e) {
        needElement(e);
        needState(size() < 10);
        elements.add(e);
        parts.add(0);
    }

    private int doRemove(int place) {
        needPlace(place);
        parts.remove(place);
        return elements.remove(place);
    }

    private int doLay(int place, int part) {
        needPlace(place);
        need(part >= 0 && part <= 5);
        return parts.set(place, part);
    }

    private int doSplit() {
        int all = all();
        needState(total(all) == 0);
        List<List<Integer>> splits = splits(all);
        int most = 0;
        for (List<Integer> split : splits) {
            most = Math.max(most, split.size());
        }
        needState(most <= 6);
        List<Integer> best = null;
        for (List<Integer> split : splits) {
            if (split.size() == most && (best == null || comesBefore(split, best))) {
                best = split;
            }
        }
        for (int k = 0; k < most; k++) {
            for (int place = 0; place < size(); place++) {
                if ((best.get(k) >> place & 1) == 1) {
                    parts.set(place, k);
                }
            }
        }
        return most;
    }

    private static boolean comesBefore(List<Integer> one, List<Integer> other) {
        for (int k = 0; k < one.size(); k++) {
            if (!one.get(k).equals(other.get(k))) {
                return one.get(k) < other.get(k);
            }
        }
        return false;
    }

    // ---- the face

    int begin(int newA, int newB) {
        Model before = copy();
        doBegin(newA, newB);
        keep(before);
        return a * b;
    }

    int add(int e) {
        Model before = copy();
        doAdd(e);
        keep(before);
        return size() - 1;
    }

    int removeAt(int place) {
        Model before = copy();
        int e = doRemove(place);
        keep(before);
        return e;
    }

    int lay(int place, int part) {
        Model before = copy();
        int old = doLay(place, part);
        keep(before);
        return old;
    }

    int laySplit() {
        Model before = copy();
        int most = doSplit();
        keep(before);
        return most;
    }

    private Model copy() {
        Model copy = new Model();
        copy.restore(this);
        return copy;
    }

    private void keep(Model before) {
        saved.push(before);
        if (saved.size() > 4) {
            saved.removeLast();
        }
    }

    private int plus(int one, int other) {
        int x = (one % a + other % a) % a;
        int y = (one / a + other / a) % b;
        return a * y + x;
    }

    int sum(int one, int other) {
        needElement(one);
        needElement(other);
        return plus(one, other);
    }

    private int order(int e) {
        int times = 1;
        for (int t = e; t != 0; t = plus(t, e)) {
            times++;
        }
        return times;
    }

    int element(int e, int what) {
        needElement(e);
        need(what >= 0 && what <= 3);
        if (what == 0) {
            return order(e);
        }
        if (what == 1) {
            for (int other = 0; other < a * b; other++) {
                if (plus(e, other) == 0) {
                    return other;
                }
            }
        }
        if (what == 2) {
            return Collections.frequency(elements, e);
        }
        return reached().contains(e) ? 1 : 0;
    }

    int bound() {
        int divisor = 1;
        for (int d = 1; d <= 6; d++) {
            divisor = a % d == 0 && b % d == 0 ? d : divisor;
        }
        int multiple = 1;
        while (multiple % a != 0 || multiple % b != 0) {
            multiple++;
        }
        return divisor + multiple - 1;
    }

    private int all() {
        return (1 << size()) - 1;
    }

    private int total(int set) {
        int total = 0;
        for (int k = 0; k < size(); k++) {
            if ((set >> k & 1) == 1) {
                total = plus(total, elements.get(k));
            }
        }
        return total;
    }

    private boolean isBlock(int set) {
        if (set == 0 || total(set) != 0) {
            return false;
        }
        for (int part = (set - 1) & set; part != 0; part = (part - 1) & set) {
            if (total(part) == 0) {
                return false;
            }
        }
        return true;
    }

    private List<Integer> knownBlocks;
    private List<Integer> knownElements;
    private int knownGroup;

    /** The only thing kept: the blocks of the same elements in the same group. */
    private List<Integer> blocks() {
        if (knownBlocks == null || knownGroup != 10 * a + b || !elements.equals(knownElements)) {
            knownBlocks = new ArrayList<>();
            for (int set = 1; set <= all(); set++) {
                if (isBlock(set)) {
                    knownBlocks.add(set);
                }
            }
            knownElements = new ArrayList<>(elements);
            knownGroup = 10 * a + b;
        }
        return knownBlocks;
    }

    private List<List<Integer>> splits(int set) {
        List<List<Integer>> found = new ArrayList<>();
        if (set == 0) {
            found.add(new ArrayList<>());
            return found;
        }
        for (int block : blocks()) {
            boolean within = (block | set) == set;
            if (within && (block & Integer.lowestOneBit(set)) != 0) {
                for (List<Integer> rest : splits(set - block)) {
                    List<Integer> split = new ArrayList<>();
                    split.add(block);
                    split.addAll(rest);
                    found.add(split);
                }
            }
        }
        return found;
    }

    private Set<Integer> reached() {
        Set<Integer> found = new TreeSet<>();
        for (int set = 1; set <= all(); set++) {
            found.add(total(set));
        }
        return found;
    }

    private boolean isFree(List<Integer> row) {
        Model other = new Model();
        other.a = a;
        other.b = b;
        other.elements = row;
        return !other.reached().contains(0);
    }

    int at(int place, int what) {
        needPlace(place);
        need(what >= 0 && what <= 3);
        if (what == 0) {
            return elements.get(place);
        }
        if (what == 1) {
            return parts.get(place);
        }
        List<Integer> lengths = new ArrayList<>();
        for (int block : blocks()) {
            if ((block >> place & 1) == 1) {
                lengths.add(Integer.bitCount(block));
            }
        }
        if (what == 2) {
            return lengths.size();
        }
        return lengths.isEmpty() ? 0 : Collections.min(lengths);
    }

    int set(int set, int what) {
        needSet(set);
        need(what >= 0 && what <= 5);
        switch (what) {
            case 0:
                return Integer.bitCount(set);
            case 1:
                return total(set);
            case 2:
                return isBlock(set) ? 1 : 0;
            case 3:
                int lengths = 0;
                for (List<Integer> split : splits(set)) {
                    lengths |= 1 << split.size();
                }
                return lengths;
            case 4:
                return splits(set).size();
            default:
                int count = 0;
                for (int block : blocks()) {
                    count += (block | set) == set ? 1 : 0;
                }
                return count;
        }
    }

    int block(int index) {
        need(index >= 0);
        return index < blocks().size() ? blocks().get(index) : -1;
    }

    private int placesOf(int part) {
        int places = 0;
        for (int k = 0; k < size(); k++) {
            places += parts.get(k) == part ? 1 << k : 0;
        }
        return places;
    }

    int part(int part, int what) {
        need(part >= 0 && part <= 5 && what >= 0 && what <= 2);
        int places = placesOf(part);
        return what == 0 ? places : what == 1 ? total(places) : isBlock(places) ? 1 : 0;
    }

    int whole(int what) {
        need(what >= 0 && what <= 13);
        List<Integer> lengths = new ArrayList<>();
        for (int block : blocks()) {
            lengths.add(Integer.bitCount(block));
        }
        switch (what) {
            case 0:
                return a;
            case 1:
                return b;
            case 2:
                return a * b;
            case 3:
                return exponent();
            case 4:
                return size();
            case 5:
                return total(all());
            case 6:
                return isFree(elements) ? 1 : 0;
            case 7:
                return lengths.size();
            case 8:
                return lengths.isEmpty() ? 0 : Collections.min(lengths);
            case 9:
                return lengths.isEmpty() ? 0 : Collections.max(lengths);
            case 10:
                return new HashSet<>(parts).size();
            case 11:
                int good = 0;
                for (int part = 0; part < 6; part++) {
                    good += isBlock(placesOf(part)) ? 1 : 0;
                }
                return good;
            case 12:
                return reached().size();
            default:
                return text.length();
        }
    }

    private int exponent() {
        for (int n = 1; ; n++) {
            boolean all = true;
            for (int e = 0; e < a * b; e++) {
                all &= n % order(e) == 0;
            }
            if (all) {
                return n;
            }
        }
    }

    long sums() {
        long bits = 0;
        for (int e : reached()) {
            bits |= 1L << e;
        }
        return bits;
    }

    double cross() {
        double total = 0.0;
        for (int e : elements) {
            total += 1.0 / order(e);
        }
        return total;
    }

    int reason(int part) {
        need(part >= 0 && part <= 5);
        int places = placesOf(part);
        return isBlock(places) ? 0 : places == 0 ? 1 : total(places) != 0 ? 2 : 3;
    }

    private int nextFree(List<Integer> row) {
        for (int e = 0; e < a * b; e++) {
            List<Integer> longer = new ArrayList<>(row);
            longer.add(e);
            if (isFree(longer)) {
                return e;
            }
        }
        return -1;
    }

    int freeElement() {
        return nextFree(elements);
    }

    int freeFor() {
        List<Integer> row = new ArrayList<>(elements);
        int count = 0;
        for (int e = nextFree(row); e >= 0; e = nextFree(row)) {
            row.add(e);
            count++;
        }
        return count;
    }

    int blocksWith(int e, int places) {
        needElement(e);
        need(places >= 1 && places <= 11);
        Model longer = copy();
        longer.elements.add(e);
        int count = 0;
        for (int set = 1 << size(); set < 2 << size(); set++) {
            count += Integer.bitCount(set) == places && longer.isBlock(set) ? 1 : 0;
        }
        return count;
    }

    private TreeMap<Integer, Integer> contents(int set) {
        TreeMap<Integer, Integer> contents = new TreeMap<>();
        for (int k = 0; k < size(); k++) {
            if ((set >> k & 1) == 1) {
                contents.merge(elements.get(k), 1, Integer::sum);
            }
        }
        return contents;
    }

    int alike(int one, int other) {
        needSet(one);
        needSet(other);
        return contents(one).equals(contents(other)) ? 1 : 0;
    }

    int unlikeBlocks() {
        Set<TreeMap<Integer, Integer>> kinds = new HashSet<>();
        for (int block : blocks()) {
            kinds.add(contents(block));
        }
        return kinds.size();
    }

    int type(int value) {
        need(value >= 0 && value <= 127);
        needState(text.length() < 150);
        text += (char) value;
        return text.length();
    }

    int clearCommands() {
        int length = text.length();
        text = "";
        return length;
    }

    String text() {
        return text;
    }

    int runCommands() {
        int fault = fault(text);
        if (fault >= 0) {
            return -10 - fault;
        }
        save();
        int done = 0;
        for (String command : text.split(";")) {
            String[] row = command.trim().split(" +");
            if (row[0].isEmpty() || !carryOut(row)) {
                break;
            }
            done++;
        }
        return done;
    }

    private boolean carryOut(String[] row) {
        int first = row.length > 1 ? Integer.parseInt(row[1]) : 0;
        int second = row.length > 2 ? Integer.parseInt(row[2]) : 0;
        try {
            switch (row[0]) {
                case "group":
                    doBegin(first, second);
                    break;
                case "add":
                    doAdd(first);
                    break;
                case "minus":
                    doRemove(first);
                    break;
                case "lay":
                    doLay(first, second);
                    break;
                default:
                    doSplit();
                    break;
            }
            return true;
        } catch (IllegalArgumentException | IllegalStateException | IndexOutOfBoundsException e) {
            return false;
        }
    }

    /** Tries one prefix after the other: the first that no text goes on from holds the fault. */
    static int fault(String text) {
        if (TEXT.matcher(text).matches()) {
            return -1;
        }
        int end = 0;
        while (end < text.length() && goesOn(text.substring(0, end + 1))) {
            end++;
        }
        // A word that is still open, or just ended, at this byte may be the one to blame.
        int start = end;
        while (start > 0 && isLetter(text.charAt(start - 1))) {
            start--;
        }
        int stop = start;
        while (stop < text.length() && isLetter(text.charAt(stop))) {
            stop++;
        }
        boolean atCommand = Pattern.matches("( *|.*; *)", text.substring(0, start));
        boolean known = Arrays.asList(WORDS).contains(text.substring(start, stop));
        return stop > start && atCommand && !known ? start : end;
    }

    private static boolean goesOn(String prefix) {
        Matcher matcher = TEXT.matcher(prefix);
        return matcher.matches() || matcher.hitEnd();
    }

    private static boolean isLetter(char c) {
        return c >= 'a' && c <= 'z';
    }

    int undo() {
        needState(!saved.isEmpty());
        restore(saved.pop());
        return saved.size();
    }

    long digest() {
        long h = 43602;
        h = 31 * h + saved.size();
        for (int what = 0; what <= 13; what++) {
            h = 31 * h + whole(what);
        }
        h = 31 * h + sums();
        for (int place = 0; place < size(); place++) {
            for (int what = 0; what <= 3; what++) {
                h = 31 * h + at(place, what);
            }
        }
        for (int part = 0; part <= 5; part++) {
            for (int what = 0; what <= 2; what++) {
                h = 31 * h + part(part, what);
            }
        }
        for (int what = 1; what <= 5; what++) {
            h = 31 * h + set(all(), what);
        }
        for (int block : blocks()) {
            h = 31 * h + block;
        }
        h = 31 * h + freeElement();
        h = 31 * h + unlikeBlocks();
        return 31 * h + Double.doubleToLongBits(cross());
    }
}
