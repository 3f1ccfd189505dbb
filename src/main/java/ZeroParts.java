/**
 * Sequences of elements of a finite group of pairs of remainders, and their parts that sum to
 * nothing. Sets of places are bit masks: bit k is for the place k.
 *
 * <p>All rows are made in constructors and used again, so that a call makes no object but the
 * exception that it may throw.
 */
public final class ZeroParts {
    /** Returned where there is no such value. */
    public static final int NONE = -1;

    private static final int MOST_MODULUS = 6;
    private static final int MOST_PLACES = 10;
    private static final int MOST_SETS = 1 << MOST_PLACES;
    private static final int PARTS = 6;
    private static final int KEPT_STATES = 4;
    private static final int MOST_BYTES = 150;
    private static final int GREATEST_BYTE = 127;
    private static final int ANSWER_OF_FAULT_0 = -10;
    private static final int NOTHING = 0;
    private static final int WHOLE_VALUES = 14;
    private static final long DIGEST_START = 43602L;

    private static final Word[] WORDS = Word.values();

    private final Sequence now;
    private final History history;
    private final SetTable table;
    private final CommandText text;

    public ZeroParts() {
        now = new Sequence();
        history = new History();
        table = new SetTable();
        text = new CommandText();
    }

    // ---- group and sequence

    public int begin(int a, int b) throws IllegalArgumentException {
        if (!isModulus(a) || !isModulus(b)) {
            throw new IllegalArgumentException("a modulus is from 1 to 6");
        }
        history.keep(now);
        now.restart(a, b);
        return now.group.count();
    }

    public int add(int element) throws IndexOutOfBoundsException, IllegalStateException {
        if (!now.group.has(element)) {
            throw new IndexOutOfBoundsException("no such element");
        }
        if (now.isFull()) {
            throw new IllegalStateException("the sequence has 10 elements");
        }
        history.keep(now);
        now.append(element);
        return now.size - 1;
    }

    public int removeAt(int place) throws IndexOutOfBoundsException {
        if (!now.hasPlace(place)) {
            throw new IndexOutOfBoundsException("no such place");
        }
        history.keep(now);
        return now.takeOut(place);
    }

    public int lay(int place, int part) throws IndexOutOfBoundsException, IllegalArgumentException {
        if (!now.hasPlace(place)) {
            throw new IndexOutOfBoundsException("no such place");
        }
        if (!isPart(part)) {
            throw new IllegalArgumentException("a part is from 0 to 5");
        }
        history.keep(now);
        int before = now.parts[place];
        now.parts[place] = part;
        return before;
    }

    public int laySplit() throws IllegalStateException {
        if (!canLaySplit()) {
            throw new IllegalStateException("no split into at most 6 blocks can be laid");
        }
        history.keep(now);
        return laySplitNow();
    }

    // ---- values of the group

    public int sum(int one, int other) throws IndexOutOfBoundsException {
        if (!now.group.has(one) || !now.group.has(other)) {
            throw new IndexOutOfBoundsException("no such element");
        }
        return now.group.plus(one, other);
    }

    public int element(int element, int what)
            throws IndexOutOfBoundsException, IllegalArgumentException {
        if (!now.group.has(element)) {
            throw new IndexOutOfBoundsException("no such element");
        }
        switch (what) {
            case 0:
                return now.group.orderOf(element);
            case 1:
                return now.group.opposite(element);
            case 2:
                return now.timesOf(element, now.allPlaces());
            case 3:
                return contains(sums(), element) ? 1 : 0;
            default:
                throw new IllegalArgumentException("what is from 0 to 3");
        }
    }

    public int bound() {
        return now.group.commonDivisor() + now.group.exponent() - 1;
    }

    // ---- values of the sequence

    public int at(int place, int what) throws IndexOutOfBoundsException, IllegalArgumentException {
        if (!now.hasPlace(place)) {
            throw new IndexOutOfBoundsException("no such place");
        }
        switch (what) {
            case 0:
                return now.elements[place];
            case 1:
                return now.parts[place];
            case 2:
                return table.follow(now).countBlocksAt(place);
            case 3:
                return table.follow(now).smallestBlock(1 << place);
            default:
                throw new IllegalArgumentException("what is from 0 to 3");
        }
    }

    public int set(int set, int what) throws IllegalArgumentException {
        if (!now.hasPlaces(set)) {
            throw new IllegalArgumentException("a set has places of the sequence only");
        }
        switch (what) {
            case 0:
                return Integer.bitCount(set);
            case 1:
                return table.follow(now).totalOf(set);
            case 2:
                return table.follow(now).isBlock(set) ? 1 : 0;
            case 3:
                return table.follow(now).lengthsOf(set);
            case 4:
                return table.follow(now).splitsOf(set);
            case 5:
                return table.follow(now).countBlocksIn(set);
            default:
                throw new IllegalArgumentException("what is from 0 to 5");
        }
    }

    public int block(int index) throws IllegalArgumentException {
        if (index < 0) {
            throw new IllegalArgumentException("an index is not negative");
        }
        return table.follow(now).blockOrNone(index);
    }

    public int part(int part, int what) throws IllegalArgumentException {
        if (!isPart(part)) {
            throw new IllegalArgumentException("a part is from 0 to 5");
        }
        int places = now.placesOf(part);
        switch (what) {
            case 0:
                return places;
            case 1:
                return table.follow(now).totalOf(places);
            case 2:
                return table.follow(now).isBlock(places) ? 1 : 0;
            default:
                throw new IllegalArgumentException("what is from 0 to 2");
        }
    }

    public int whole(int what) throws IllegalArgumentException {
        switch (what) {
            case 0:
                return now.group.a;
            case 1:
                return now.group.b;
            case 2:
                return now.group.count();
            case 3:
                return now.group.exponent();
            case 4:
                return now.size;
            case 5:
                return table.follow(now).totalOf(now.allPlaces());
            case 6:
                return contains(sums(), NOTHING) ? 0 : 1;
            case 7:
                return table.follow(now).blockCount;
            case 8:
                return table.follow(now).smallestBlock(now.allPlaces());
            case 9:
                return table.follow(now).greatestBlock();
            case 10:
                return countLaidParts();
            case 11:
                return countGoodParts();
            case 12:
                return Long.bitCount(sums());
            case 13:
                return text.length;
            default:
                throw new IllegalArgumentException("what is from 0 to 13");
        }
    }

    public long sums() {
        long reached = 0L;
        for (int place = 0; place < now.size; place++) {
            reached = now.group.reachedWith(reached, now.elements[place]);
        }
        return reached;
    }

    public double cross() {
        double total = 0.0;
        for (int place = 0; place < now.size; place++) {
            total = total + 1.0 / now.group.orderOf(now.elements[place]);
        }
        return total;
    }

    // ---- what if, which changes nothing

    public int reason(int part) throws IllegalArgumentException {
        if (!isPart(part)) {
            throw new IllegalArgumentException("a part is from 0 to 5");
        }
        int places = now.placesOf(part);
        if (places == 0) {
            return 1;
        }
        table.follow(now);
        if (table.totalOf(places) != NOTHING) {
            return 2;
        }
        return table.isBlock(places) ? 0 : 3;
    }

    public int freeElement() {
        return now.group.lowestFree(sums());
    }

    public int freeFor() {
        long reached = sums();
        int steps = 0;
        int element = now.group.lowestFree(reached);
        // Each step reaches at least one element more, so there are fewer steps than elements.
        while (element != NONE && steps < now.group.count()) {
            reached = now.group.reachedWith(reached, element);
            steps++;
            element = now.group.lowestFree(reached);
        }
        return steps;
    }

    public int blocksWith(int element, int places)
            throws IndexOutOfBoundsException, IllegalArgumentException {
        if (!now.group.has(element)) {
            throw new IndexOutOfBoundsException("no such element");
        }
        if (places < 1 || places > MOST_PLACES + 1) {
            throw new IllegalArgumentException("places is from 1 to 11");
        }
        return table.follow(now).countFreeSets(places - 1, now.group.opposite(element));
    }

    public int alike(int one, int other) throws IllegalArgumentException {
        if (!now.hasPlaces(one) || !now.hasPlaces(other)) {
            throw new IllegalArgumentException("a set has places of the sequence only");
        }
        for (int place = 0; place < now.size; place++) {
            int element = now.elements[place];
            if (now.timesOf(element, one) != now.timesOf(element, other)) {
                return 0;
            }
        }
        return 1;
    }

    public int unlikeBlocks() {
        table.follow(now);
        int found = 0;
        for (int index = 0; index < table.blockCount; index++) {
            if (now.takesFirstOnes(table.blocks[index])) {
                found++;
            }
        }
        return found;
    }

    // ---- command text, undo and checksum

    public int type(int value) throws IllegalArgumentException, IllegalStateException {
        if (value < 0 || value > GREATEST_BYTE) {
            throw new IllegalArgumentException("a byte is from 0 to 127");
        }
        if (text.length >= MOST_BYTES) {
            throw new IllegalStateException("the text has 150 bytes");
        }
        text.append(value);
        return text.length;
    }

    public int clearCommands() {
        int before = text.length;
        text.length = 0;
        return before;
    }

    public int runCommands() {
        int fault = text.findFault();
        if (fault != NONE) {
            return ANSWER_OF_FAULT_0 - fault;
        }
        history.keep(now);
        text.rewind();
        int done = 0;
        while (done < MOST_BYTES && text.readCommand() && carryOut(text.word)) {
            done++;
        }
        return done;
    }

    public int undo() throws IllegalStateException {
        if (history.count == 0) {
            throw new IllegalStateException("the undo stack is empty");
        }
        history.bringBack(now);
        return history.count;
    }

    public long digest() {
        long h = mixed(DIGEST_START, history.count);
        for (int what = 0; what < WHOLE_VALUES; what++) {
            h = mixed(h, whole(what));
        }
        h = mixed(h, sums());
        h = mixedWithPlaces(h);
        h = mixedWithParts(h);
        for (int what = 1; what <= 5; what++) {
            h = mixed(h, set(now.allPlaces(), what));
        }
        table.follow(now);
        for (int index = 0; index < table.blockCount; index++) {
            h = mixed(h, table.blocks[index]);
        }
        h = mixed(h, freeElement());
        h = mixed(h, unlikeBlocks());
        return mixed(h, bitsOf(cross()));
    }

    private static long mixed(long h, long value) {
        return 31L * h + value;
    }

    private long mixedWithPlaces(long start) {
        long h = start;
        for (int place = 0; place < now.size; place++) {
            for (int what = 0; what <= 3; what++) {
                h = mixed(h, at(place, what));
            }
        }
        return h;
    }

    private long mixedWithParts(long start) {
        long h = start;
        for (int part = 0; part < PARTS; part++) {
            for (int what = 0; what <= 2; what++) {
                h = mixed(h, part(part, what));
            }
        }
        return h;
    }

    /**
     * The bits of a double as Double.doubleToLongBits tells them, which LANGUAGE.md leaves out. A
     * cross number is 0.0 or from 1 / 30 to 10, so neither a sign nor a subnormal need be told.
     */
    private static long bitsOf(double value) {
        if (value <= 0.0) {
            return 0L;
        }
        double scaled = value;
        int exponent = 0;
        for (int step = 0; step < 64 && scaled >= 2.0; step++) {
            scaled = scaled / 2.0;
            exponent++;
        }
        for (int step = 0; step < 64 && scaled < 1.0; step++) {
            scaled = scaled * 2.0;
            exponent--;
        }
        long fraction = (long) ((scaled - 1.0) * (double) (1L << 52));
        return ((long) (exponent + 1023) << 52) + fraction;
    }

    private static boolean isModulus(int value) {
        return value >= 1 && value <= MOST_MODULUS;
    }

    private static boolean isPart(int part) {
        return part >= 0 && part < PARTS;
    }

    private static boolean contains(long elements, int element) {
        return (elements >> element & 1L) != 0L;
    }

    private int countLaidParts() {
        int found = 0;
        for (int part = 0; part < PARTS; part++) {
            if (now.placesOf(part) != 0) {
                found++;
            }
        }
        return found;
    }

    private int countGoodParts() {
        table.follow(now);
        int found = 0;
        for (int part = 0; part < PARTS; part++) {
            if (table.isBlock(now.placesOf(part))) {
                found++;
            }
        }
        return found;
    }

    private boolean canLaySplit() {
        int most = table.follow(now).mostBlocks(now.allPlaces());
        return most != NONE && most <= PARTS;
    }

    private int laySplitNow() {
        int most = table.follow(now).mostBlocks(now.allPlaces());
        int left = now.allPlaces();
        for (int part = 0; part < most; part++) {
            int block = table.firstBlockOfSplit(left, most - part);
            now.layPlaces(block, part);
            left &= ~block;
        }
        return most;
    }

    /** Carries out the command that was read last; false, and nothing done, if it would throw. */
    private boolean carryOut(Word word) {
        if (word == null) {
            return false;
        }
        switch (word) {
            case GROUP:
                return runGroup(text.first, text.second);
            case ADD:
                return runAdd(text.first);
            case MINUS:
                return runMinus(text.first);
            case LAY:
                return runLay(text.first, text.second);
            case SPLIT:
                return canLaySplit() && laySplitNow() != NONE;
            default:
                return false;
        }
    }

    private boolean runGroup(int a, int b) {
        if (!isModulus(a) || !isModulus(b)) {
            return false;
        }
        now.restart(a, b);
        return true;
    }

    private boolean runAdd(int element) {
        if (!now.group.has(element) || now.isFull()) {
            return false;
        }
        now.append(element);
        return true;
    }

    private boolean runMinus(int place) {
        if (!now.hasPlace(place)) {
            return false;
        }
        now.takeOut(place);
        return true;
    }

    private boolean runLay(int place, int part) {
        if (!now.hasPlace(place) || !isPart(part)) {
            return false;
        }
        now.parts[place] = part;
        return true;
    }

    /** The pairs (x, y) of remainders modulo a and b; the pair has the number a * y + x. */
    private static final class Group {
        private int a;
        private int b;

        Group() {
            a = 6;
            b = 1;
        }

        void become(int newA, int newB) {
            a = newA;
            b = newB;
        }

        int count() {
            return a * b;
        }

        boolean has(int element) {
            return element >= 0 && element < count();
        }

        int plus(int one, int other) {
            int x = remainder(one + other, a);
            int y = remainder(quotient(one, a) + quotient(other, a), b);
            return a * y + x;
        }

        int opposite(int element) {
            int x = remainder(a - remainder(element, a), a);
            int y = remainder(b - quotient(element, a), b);
            return a * y + x;
        }

        int orderOf(int element) {
            int times = 1;
            int total = element;
            while (total != NOTHING && times < count()) {
                total = plus(total, element);
                times++;
            }
            return times;
        }

        int commonDivisor() {
            int divisor = 1;
            for (int d = 1; d <= a; d++) {
                if (remainder(a, d) == 0 && remainder(b, d) == 0) {
                    divisor = d;
                }
            }
            return divisor;
        }

        /** It is the least common multiple of a and b, the order of the element (1, 1). */
        int exponent() {
            return quotient(a * b, commonDivisor());
        }

        /** The sums of sets that are not empty, once an element is appended to a sequence. */
        long reachedWith(long reached, int element) {
            long more = reached | 1L << element;
            for (int e = 0; e < count(); e++) {
                if (contains(reached, e)) {
                    more |= 1L << plus(e, element);
                }
            }
            return more;
        }

        /** The lowest element that leaves a sequence with these sums free, or NONE. */
        int lowestFree(long reached) {
            if (contains(reached, NOTHING)) {
                return NONE;
            }
            for (int element = 1; element < count(); element++) {
                if (!contains(reached, opposite(element))) {
                    return element;
                }
            }
            return NONE;
        }

        private static int remainder(int value, int modulus) {
            return modulus > 0 ? value % modulus : 0;
        }

        private static int quotient(int value, int divisor) {
            return divisor > 0 ? value / divisor : 0;
        }
    }

    /** The state that undo brings back: the group, the elements and the part of each place. */
    private static final class Sequence {
        private final Group group;
        private final int[] elements;
        private final int[] parts;
        private int size;

        Sequence() {
            group = new Group();
            elements = new int[MOST_PLACES];
            parts = new int[MOST_PLACES];
            size = 0;
        }

        void copyFrom(Sequence other) {
            group.become(other.group.a, other.group.b);
            size = other.size;
            for (int place = 0; place < MOST_PLACES; place++) {
                elements[place] = other.elements[place];
                parts[place] = other.parts[place];
            }
        }

        void restart(int a, int b) {
            group.become(a, b);
            size = 0;
        }

        boolean isFull() {
            return size >= MOST_PLACES;
        }

        boolean hasPlace(int place) {
            return place >= 0 && place < size;
        }

        int allPlaces() {
            return (1 << size) - 1;
        }

        boolean hasPlaces(int places) {
            return places >= 0 && places <= allPlaces();
        }

        void append(int element) {
            if (isFull()) {
                return;
            }
            elements[size] = element;
            parts[size] = 0;
            size++;
        }

        int takeOut(int place) {
            if (!hasPlace(place)) {
                return NONE;
            }
            int element = elements[place];
            size--;
            for (int p = place; p < size; p++) {
                elements[p] = elements[p + 1];
                parts[p] = parts[p + 1];
            }
            return element;
        }

        int timesOf(int element, int places) {
            int times = 0;
            for (int place = 0; place < size; place++) {
                if (elements[place] == element && (places >> place & 1) != 0) {
                    times++;
                }
            }
            return times;
        }

        int placesOf(int part) {
            int places = 0;
            for (int place = 0; place < size; place++) {
                if (parts[place] == part) {
                    places |= 1 << place;
                }
            }
            return places;
        }

        void layPlaces(int places, int part) {
            for (int place = 0; place < size; place++) {
                if ((places >> place & 1) != 0) {
                    parts[place] = part;
                }
            }
        }

        /**
         * Tells whether a set takes each of its elements from the first places where it stands.
         * Of all the sets that are alike, just one does.
         */
        boolean takesFirstOnes(int places) {
            for (int place = 1; place < size; place++) {
                if ((places >> place & 1) != 0 && skipsBefore(place, places)) {
                    return false;
                }
            }
            return true;
        }

        private boolean skipsBefore(int place, int places) {
            for (int earlier = 0; earlier < place; earlier++) {
                if (elements[earlier] == elements[place] && (places >> earlier & 1) == 0) {
                    return true;
                }
            }
            return false;
        }
    }

    /** The undo stack. The state that drops out lends its rows to the newest one. */
    private static final class History {
        private final Sequence[] kept;
        private int count;

        History() {
            kept = new Sequence[KEPT_STATES];
            for (int index = 0; index < KEPT_STATES; index++) {
                kept[index] = new Sequence();
            }
            count = 0;
        }

        void keep(Sequence state) {
            if (count >= KEPT_STATES) {
                dropOldest();
            }
            kept[count].copyFrom(state);
            count++;
        }

        void bringBack(Sequence state) {
            if (count > 0) {
                count--;
                state.copyFrom(kept[count]);
            }
        }

        private void dropOldest() {
            Sequence oldest = kept[0];
            for (int index = 1; index < KEPT_STATES; index++) {
                kept[index - 1] = kept[index];
            }
            kept[KEPT_STATES - 1] = oldest;
            count = KEPT_STATES - 1;
        }
    }

    /**
     * What is known of every set of places. The table has its own copy of the sequence that it was
     * made for, so that only the sets with a place that has changed since are made again.
     */
    private static final class SetTable {
        private static final int FREE = 0;
        private static final int BLOCK = 1;
        private static final int MORE_THAN_BLOCK = 2;

        private final Sequence made;
        private final int[] totals;
        private final int[] kinds;
        private final int[] lengths;
        private final int[] splits;
        private final int[] blocks;
        private int blockCount;
        private int setsWithSplits;

        SetTable() {
            made = new Sequence();
            totals = new int[MOST_SETS];
            kinds = new int[MOST_SETS];
            lengths = new int[MOST_SETS];
            splits = new int[MOST_SETS];
            blocks = new int[MOST_SETS];
            blockCount = 0;
            // The empty set has its one split, with no block, whatever the sequence.
            lengths[0] = 1;
            splits[0] = 1;
            setsWithSplits = 1;
        }

        SetTable follow(Sequence now) {
            int same = samePlaces(now);
            if (same < made.size) {
                cutTo(same);
            }
            made.group.become(now.group.a, now.group.b);
            for (int place = same; place < now.size; place++) {
                tablePlace(now.elements[place]);
            }
            return this;
        }

        int totalOf(int set) {
            return isSet(set) ? totals[set] : NONE;
        }

        boolean isBlock(int set) {
            return isSet(set) && kinds[set] == BLOCK;
        }

        int blockOrNone(int index) {
            return index >= 0 && index < blockCount ? blocks[index] : NONE;
        }

        int countBlocksIn(int set) {
            int found = 0;
            for (int index = 0; index < blockCount; index++) {
                if ((blocks[index] & ~set) == 0) {
                    found++;
                }
            }
            return found;
        }

        int countBlocksAt(int place) {
            int found = 0;
            for (int index = 0; index < blockCount; index++) {
                if ((blocks[index] >> place & 1) != 0) {
                    found++;
                }
            }
            return found;
        }

        /** The places of the smallest block with a place of these, 0 without one. */
        int smallestBlock(int places) {
            int smallest = 0;
            for (int index = 0; index < blockCount; index++) {
                int length = Integer.bitCount(blocks[index]);
                if ((blocks[index] & places) != 0 && (smallest == 0 || length < smallest)) {
                    smallest = length;
                }
            }
            return smallest;
        }

        int greatestBlock() {
            int greatest = 0;
            for (int index = 0; index < blockCount; index++) {
                greatest = Math.max(greatest, Integer.bitCount(blocks[index]));
            }
            return greatest;
        }

        /**
         * Counts the free sets of so many places with this sum. These make a block with a new
         * place whose element is opposite to the sum, and no other sets do: if a smaller part of
         * such a block summed to nothing, so would its rest, and one of the two lacks the new
         * place.
         */
        int countFreeSets(int places, int total) {
            int found = 0;
            for (int set = 0; set < 1 << made.size; set++) {
                if (Integer.bitCount(set) == places && kinds[set] == FREE && totals[set] == total) {
                    found++;
                }
            }
            return found;
        }

        int lengthsOf(int set) {
            tableSplits();
            return isSet(set) ? lengths[set] : 0;
        }

        int splitsOf(int set) {
            tableSplits();
            return isSet(set) ? splits[set] : 0;
        }

        /** The greatest number of blocks in a split of the set; NONE if it has no split. */
        int mostBlocks(int set) {
            int numbers = lengthsOf(set);
            for (int most = MOST_PLACES; most >= 0; most--) {
                if ((numbers >> most & 1) != 0) {
                    return most;
                }
            }
            return NONE;
        }

        /** The least block at the lowest place of the set with a split into so many; 0 if none. */
        int firstBlockOfSplit(int set, int count) {
            int lowest = set & -set;
            for (int index = 0; index < blockCount; index++) {
                int block = blocks[index];
                if ((block & lowest) != 0 && (block & ~set) == 0
                        && (lengthsOf(set & ~block) >> (count - 1) & 1) != 0) {
                    return block;
                }
            }
            return 0;
        }

        private int samePlaces(Sequence now) {
            if (made.group.a != now.group.a || made.group.b != now.group.b) {
                return 0;
            }
            int most = Math.min(made.size, now.size);
            int same = 0;
            while (same < most && made.elements[same] == now.elements[same]) {
                same++;
            }
            return same;
        }

        private void cutTo(int places) {
            made.size = places;
            int sets = 1 << places;
            while (blockCount > 0 && blocks[blockCount - 1] >= sets) {
                blockCount--;
            }
            setsWithSplits = Math.min(setsWithSplits, sets);
        }

        private void tablePlace(int element) {
            if (made.isFull()) {
                return;
            }
            int place = 1 << made.size;
            made.append(element);
            for (int set = place; set < place << 1; set++) {
                totals[set] = made.group.plus(totals[set ^ place], element);
                kinds[set] = kindOf(set);
                if (kinds[set] == BLOCK && blockCount < MOST_SETS) {
                    blocks[blockCount] = set;
                    blockCount++;
                }
            }
        }

        private int kindOf(int set) {
            for (int place = 0; place < made.size; place++) {
                if ((set >> place & 1) != 0 && kinds[set & ~(1 << place)] != FREE) {
                    return MORE_THAN_BLOCK;
                }
            }
            return totals[set] == NOTHING ? BLOCK : FREE;
        }

        private static boolean isSet(int set) {
            return set >= 0 && set < MOST_SETS;
        }

        private void tableSplits() {
            int sets = 1 << made.size;
            for (int set = setsWithSplits; set < sets; set++) {
                tableSplitsOf(set);
            }
            setsWithSplits = sets;
        }

        /** Each split has one block with the lowest place, and a split of what is left. */
        private void tableSplitsOf(int set) {
            int lowest = set & -set;
            int numbers = 0;
            int found = 0;
            if (totals[set] == NOTHING) {
                for (int index = 0; index < blockCount && blocks[index] <= set; index++) {
                    int block = blocks[index];
                    if ((block & lowest) != 0 && (block & ~set) == 0) {
                        numbers |= lengths[set ^ block] << 1;
                        found += splits[set ^ block];
                    }
                }
            }
            lengths[set] = numbers;
            splits[set] = found;
        }
    }

    /** The words of commands, each with the count of its numbers. */
    private enum Word {
        GROUP("group", 2),
        ADD("add", 1),
        MINUS("minus", 1),
        LAY("lay", 2),
        SPLIT("split", 0);

        private final String letters;
        private final int numbers;

        Word(String letters, int numbers) {
            this.letters = letters;
            this.numbers = numbers;
        }
    }

    /** The command text, and a reader that goes through it command by command. */
    private static final class CommandText {
        private static final int END = -1;

        private final int[] bytes;
        private int length;
        private int cursor;
        private int fault;
        private Word word;
        private int first;
        private int second;

        CommandText() {
            bytes = new int[MOST_BYTES];
            length = 0;
            cursor = 0;
            fault = NONE;
            word = null;
            first = 0;
            second = 0;
        }

        void append(int value) {
            if (length < MOST_BYTES) {
                bytes[length] = value;
                length++;
            }
        }

        void rewind() {
            cursor = 0;
            fault = NONE;
        }

        /** The index of the first byte that cannot stand, or NONE. */
        int findFault() {
            rewind();
            int commands = 0;
            while (commands < MOST_BYTES && readCommand()) {
                commands++;
            }
            return fault;
        }

        /** Reads the next command; false at a fault, and at the end of the text. */
        boolean readCommand() {
            skipSpaces();
            if (peek() == END) {
                return false;
            }
            word = readWord();
            return word != null && readNumbers(word.numbers) && readSemicolon();
        }

        private Word readWord() {
            int start = cursor;
            while (cursor < length && isLetter(peek())) {
                cursor++;
            }
            Word found = wordBetween(start, cursor);
            if (found == null) {
                failAt(start);
            }
            return found;
        }

        private Word wordBetween(int start, int end) {
            for (int index = 0; index < WORDS.length; index++) {
                if (standsBetween(WORDS[index].letters, start, end)) {
                    return WORDS[index];
                }
            }
            return null;
        }

        private boolean standsBetween(String letters, int start, int end) {
            if (letters.length() != end - start) {
                return false;
            }
            for (int index = 0; index < letters.length(); index++) {
                if (letters.charAt(index) != bytes[start + index]) {
                    return false;
                }
            }
            return true;
        }

        private boolean readNumbers(int due) {
            first = 0;
            second = 0;
            if (due >= 1) {
                first = readNumber();
            }
            if (due >= 2 && first != NONE) {
                second = readNumber();
            }
            return first != NONE && second != NONE;
        }

        /** A third digit is left to the reader of what follows, for which it is at fault. */
        private int readNumber() {
            if (peek() != ' ') {
                failAt(cursor);
                return NONE;
            }
            skipSpaces();
            if (!isDigit(peek())) {
                failAt(cursor);
                return NONE;
            }
            int number = peek() - '0';
            cursor++;
            if (isDigit(peek())) {
                number = 10 * number + peek() - '0';
                cursor++;
            }
            return number;
        }

        private boolean readSemicolon() {
            skipSpaces();
            if (peek() != ';') {
                failAt(cursor);
                return false;
            }
            cursor++;
            return true;
        }

        private void skipSpaces() {
            while (cursor < length && peek() == ' ') {
                cursor++;
            }
        }

        private void failAt(int index) {
            fault = index;
        }

        private int peek() {
            return cursor >= 0 && cursor < length ? bytes[cursor] : END;
        }

        private static boolean isLetter(int value) {
            return value >= 'a' && value <= 'z';
        }

        private static boolean isDigit(int value) {
            return value >= '0' && value <= '9';
        }
    }
}
