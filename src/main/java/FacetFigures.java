/** Counts over objects that match, by facets, with figures of their values. README.md tells how to use it. */
public final class FacetFigures {
    public static final int NONE = -2000000000, OUTSIDE = -2000000001, STATE = -2000000002, ROOM = -2000000003;

    private static final int MOST_OBJECTS = 120;
    private static final int COLUMNS = 6;
    private static final int MOST_VALUES = 3;
    private static final int GREATEST_VALUE = 1000000000;
    private static final int MOST_FACETS = 10;
    private static final int MOST_RANGES = 6;
    private static final int MOST_ENTERED = 6;
    private static final int GREATEST_STEP = 1000000;
    private static final int GREATEST_DAY = 1000000;

    private static final int WORDS = 0;
    private static final int PATHS = 1;
    private static final int RANGES = 2;
    private static final int STEPS = 3;
    private static final int CALENDAR = 4;

    private static final int BY_COUNT = 0;
    private static final int BY_SUM = 2;

    private final Stock stock;
    private final Hand atHand;
    private final Facet[] facets;
    private final GroupList list;
    private final ValueRow sample;
    private int facetCount;
    /** The facet whose groups the list holds as they are now; NONE: they must be made anew. */
    private int listed;

    public FacetFigures() {
        Sorter sorter = new Sorter();
        stock = new Stock();
        atHand = new Hand(stock);
        facets = new Facet[MOST_FACETS];
        for (int f = 0; f < MOST_FACETS; f++) {
            facets[f] = new Facet();
        }
        list = new GroupList(sorter);
        sample = new ValueRow(sorter);
        facetCount = 0;
        listed = NONE;
    }

    public int object() {
        if (stock.count >= MOST_OBJECTS) {
            return ROOM;
        }
        leaveAll();
        return stock.addObject();
    }

    public int value(int object, int column, int v) {
        if (!stock.has(object) || !isColumn(column) || !isValue(v)) {
            return OUTSIDE;
        }
        if (stock.valueCount(object, column) >= MOST_VALUES) {
            return ROOM;
        }
        leaveAll();
        return stock.addValue(object, column, v);
    }

    public int match(int object, boolean does) {
        if (!stock.has(object)) {
            return OUTSIDE;
        }
        leaveAll();
        boolean did = stock.matches[object];
        stock.matches[object] = does;
        return did ? 1 : 0;
    }

    public int clear() {
        int were = stock.count;
        leaveAll();
        stock.count = 0;
        facetCount = 0;
        return were;
    }

    public int facet(int kind, int column, int a, int b) {
        if (kind < WORDS || kind > CALENDAR || !isColumn(column)) {
            return OUTSIDE;
        }
        if (kind == STEPS && (a < 1 || a > GREATEST_STEP || b < 0 || b >= a)) {
            return OUTSIDE;
        }
        if (kind == CALENDAR && (a < Days.DAY || a > Days.YEAR)) {
            return OUTSIDE;
        }
        if (facetCount >= MOST_FACETS) {
            return ROOM;
        }
        leaveAll();
        facets[facetCount].startOver(kind, column, a, b);
        facetCount++;
        return facetCount - 1;
    }

    public int range(int facet, int from, int to) {
        Facet f = facetAt(facet);
        if (f == null || !isValue(from) || !isValue(to) || from > to) {
            return OUTSIDE;
        }
        if (f.kind != RANGES) {
            return STATE;
        }
        if (f.rangeCount >= MOST_RANGES) {
            return ROOM;
        }
        leaveAll();
        return f.addRange(from, to);
    }

    public int filter(int facet, int column, int from, int to) {
        Facet f = facetAt(facet);
        if (f == null || (column != NONE && (!isColumn(column) || from > to))) {
            return OUTSIDE;
        }
        leaveAll();
        int had = f.filterColumn != NONE ? 1 : 0;
        f.filterColumn = column;
        f.filterFrom = from;
        f.filterTo = to;
        return had;
    }

    public int least(int facet, int n) {
        Facet f = facetAt(facet);
        if (f == null || n < 0 || n > MOST_OBJECTS) {
            return OUTSIDE;
        }
        leaveAll();
        int was = f.leastCount;
        f.leastCount = n;
        return was;
    }

    public int missing(int facet, boolean are) {
        Facet f = facetAt(facet);
        if (f == null) {
            return OUTSIDE;
        }
        leaveAll();
        boolean were = f.asksMissing;
        f.asksMissing = are;
        return were ? 1 : 0;
    }

    public int order(int facet, int how, int column) {
        Facet f = facetAt(facet);
        if (f == null || how < BY_COUNT || how > BY_SUM || (how == BY_SUM && !isColumn(column))) {
            return OUTSIDE;
        }
        leaveAll();
        int was = f.orderedBy;
        f.orderedBy = how;
        f.sumColumn = how == BY_SUM ? column : 0;
        return was;
    }

    public int groups(int facet) {
        GroupList all = groupsOf(facet);
        return all == null ? OUTSIDE : all.count;
    }

    public int group(int facet, int i, int what) {
        GroupList all = groupsOf(facet);
        if (all == null || !all.has(i)) {
            return OUTSIDE;
        }
        switch (what) {
            case 0:
                return all.keyOf(i);
            case 1:
                return all.sizeOf(i);
            case 2:
                return all.isMissing(i) ? 1 : 0;
            default:
                return OUTSIDE;
        }
    }

    public int find(int facet, int key) {
        GroupList all = groupsOf(facet);
        return all == null ? OUTSIDE : all.numberOf(key);
    }

    public int in(int facet, int i, int object) {
        GroupList all = groupsOf(facet);
        if (all == null || !all.has(i) || !stock.has(object)) {
            return OUTSIDE;
        }
        return all.holds(i, object) ? 1 : 0;
    }

    public int enter(int facet, int i) {
        GroupList all = groupsOf(facet);
        if (all == null || !all.has(i)) {
            return OUTSIDE;
        }
        if (atHand.entered >= MOST_ENTERED) {
            return ROOM;
        }
        int size = all.sizeOf(i);
        atHand.startNarrowing();
        for (int m = 0; m < size; m++) {
            atHand.keep(all.memberOf(i, m));
        }
        listed = NONE;
        return size;
    }

    public int leave() {
        if (atHand.entered == 0) {
            return STATE;
        }
        atHand.widen();
        listed = NONE;
        return atHand.entered;
    }

    public int hand() {
        int many = 0;
        for (int o = 0; o < stock.count; o++) {
            if (atHand.has(o)) {
                many++;
            }
        }
        return many;
    }

    public long figure(int facet, int i, int column, int what) {
        return sampleIsTaken(facet, i, column) ? sample.tell(what) : OUTSIDE;
    }

    public int place(int facet, int i, int column, int percent) {
        if (percent < 0 || percent > 100 || !sampleIsTaken(facet, i, column)) {
            return OUTSIDE;
        }
        return sample.atPercent(percent);
    }

    public int told(int what) {
        switch (what) {
            case 0:
                return stock.count;
            case 1:
                return stock.matching();
            case 2:
                return facetCount;
            case 3:
                return atHand.entered;
            default:
                return OUTSIDE;
        }
    }

    private static boolean isColumn(int column) {
        return column >= 0 && column < COLUMNS;
    }

    private static boolean isValue(int v) {
        return v >= -GREATEST_VALUE && v <= GREATEST_VALUE;
    }

    /** The facet of that number; null: there is no such facet. */
    private Facet facetAt(int number) {
        return number >= 0 && number < facetCount ? facets[number] : null;
    }

    /** For every call that changes objects or facets: the groups that were entered may not be there any more. */
    private void leaveAll() {
        atHand.widenWholly();
        listed = NONE;
    }

    /** The groups of a facet as they are now; null: there is no such facet. */
    private GroupList groupsOf(int facet) {
        Facet f = facetAt(facet);
        if (f != null && listed != facet) {
            list.gather(f, stock, atHand);
            list.cut(f);
            list.rank(f, stock);
            listed = facet;
        }
        return f == null ? null : list;
    }

    /** Takes the values of a group, or of all at hand, into the sample; false: something of it is outside. */
    private boolean sampleIsTaken(int facet, int i, int column) {
        if (!isColumn(column)) {
            return false;
        }
        sample.startOver();
        if (i == NONE) {
            for (int o = 0; o < stock.count; o++) {
                if (atHand.has(o)) {
                    sample.take(stock, o, column);
                }
            }
            return true;
        }
        GroupList all = groupsOf(facet);
        if (all == null || !all.has(i)) {
            return false;
        }
        int size = all.sizeOf(i);
        for (int m = 0; m < size; m++) {
            sample.take(stock, all.memberOf(i, m), column);
        }
        return true;
    }

    /** The objects with their values. Rows are made once; objects from count on are not there. */
    private static final class Stock {
        int count;
        final boolean[] matches;
        private final int[] values;
        private final int[] valueCounts;

        Stock() {
            count = 0;
            matches = new boolean[MOST_OBJECTS];
            values = new int[MOST_OBJECTS * COLUMNS * MOST_VALUES];
            valueCounts = new int[MOST_OBJECTS * COLUMNS];
        }

        boolean has(int object) {
            return object >= 0 && object < count;
        }

        /** The caller has seen that there is room. */
        int addObject() {
            int object = count;
            matches[object] = false;
            for (int c = 0; c < COLUMNS; c++) {
                valueCounts[object * COLUMNS + c] = 0;
            }
            count++;
            return object;
        }

        /** The caller has seen that there is room. */
        int addValue(int object, int column, int v) {
            int cell = object * COLUMNS + column;
            values[cell * MOST_VALUES + valueCounts[cell]] = v;
            valueCounts[cell]++;
            return valueCounts[cell];
        }

        int valueCount(int object, int column) {
            return valueCounts[object * COLUMNS + column];
        }

        int valueAt(int object, int column, int k) {
            return values[(object * COLUMNS + column) * MOST_VALUES + k];
        }

        int matching() {
            int many = 0;
            for (int o = 0; o < count; o++) {
                if (matches[o]) {
                    many++;
                }
            }
            return many;
        }

        boolean hasWithin(int object, int column, int from, int to) {
            int many = valueCount(object, column);
            for (int k = 0; k < many; k++) {
                int v = valueAt(object, column, k);
                if (v >= from && v <= to) {
                    return true;
                }
            }
            return false;
        }

        long sumOf(int object, int column) {
            long sum = 0;
            int many = valueCount(object, column);
            for (int k = 0; k < many; k++) {
                sum += valueAt(object, column, k);
            }
            return sum;
        }
    }

    /**
     * The objects at hand. Each group entered lies within the one before it, so one number an object
     * is enough: in how many of the groups entered it is, counted from the first.
     */
    private static final class Hand {
        int entered;
        private final Stock stock;
        private final int[] depths;

        Hand(Stock stock) {
            this.stock = stock;
            entered = 0;
            depths = new int[MOST_OBJECTS];
        }

        boolean has(int object) {
            return stock.matches[object] && depths[object] >= entered;
        }

        /** One more group is entered; its objects are told by keep. */
        void startNarrowing() {
            entered++;
        }

        void keep(int object) {
            depths[object] = entered;
        }

        void widen() {
            if (entered > 0) {
                shrinkTo(entered - 1);
            }
        }

        void widenWholly() {
            if (entered > 0) {
                shrinkTo(0);
            }
        }

        /** Depths beyond the groups still entered must go, or the next group entered would seem to hold them. */
        private void shrinkTo(int still) {
            entered = still;
            for (int o = 0; o < MOST_OBJECTS; o++) {
                depths[o] = Math.min(depths[o], still);
            }
        }
    }

    /** A facet's settings, and the keys that it gives. */
    private static final class Facet {
        int kind;
        int column;
        int a;
        int b;
        int filterColumn;
        int filterFrom;
        int filterTo;
        int leastCount;
        boolean asksMissing;
        int orderedBy;
        int sumColumn;
        int rangeCount;
        private final int[] froms;
        private final int[] tos;

        Facet() {
            froms = new int[MOST_RANGES];
            tos = new int[MOST_RANGES];
        }

        void startOver(int newKind, int newColumn, int newA, int newB) {
            kind = newKind;
            column = newColumn;
            a = newA;
            b = newB;
            filterColumn = NONE;
            filterFrom = 0;
            filterTo = 0;
            leastCount = 1;
            asksMissing = false;
            orderedBy = BY_COUNT;
            sumColumn = 0;
            rangeCount = 0;
        }

        /** The caller has seen that there is room. */
        int addRange(int from, int to) {
            froms[rangeCount] = from;
            tos[rangeCount] = to;
            rangeCount++;
            return rangeCount - 1;
        }

        boolean counts(Stock stock, int object) {
            return filterColumn == NONE || stock.hasWithin(object, filterColumn, filterFrom, filterTo);
        }

        void collectKeys(Stock stock, int object, KeyRow row) {
            row.startOver();
            int many = stock.valueCount(object, column);
            for (int k = 0; k < many; k++) {
                addKeysOf(stock.valueAt(object, column, k), row);
            }
        }

        private void addKeysOf(int v, KeyRow row) {
            switch (kind) {
                case WORDS:
                    row.add(v);
                    break;
                case PATHS:
                    addPathKeys(v, row);
                    break;
                case RANGES:
                    addRangeKeys(v, row);
                    break;
                case STEPS:
                    if (a > 0) {
                        row.add(v - Math.floorMod(v - b, a));
                    }
                    break;
                case CALENDAR:
                    if (v >= -GREATEST_DAY && v <= GREATEST_DAY) {
                        row.add(Days.firstDay(v, a));
                    }
                    break;
                default:
                    break;
            }
        }

        private static void addPathKeys(int v, KeyRow row) {
            if (v < 10000 || v > 999999) {
                return;
            }
            boolean hasSecond = v / 100 % 100 != 0;
            boolean hasThird = v % 100 != 0;
            if (hasThird && !hasSecond) {
                return;
            }
            row.add(v - v % 10000);
            if (hasSecond) {
                row.add(v - v % 100);
            }
            if (hasThird) {
                row.add(v);
            }
        }

        private void addRangeKeys(int v, KeyRow row) {
            for (int r = 0; r < rangeCount; r++) {
                if (v >= froms[r] && v <= tos[r]) {
                    row.add(r);
                }
            }
        }
    }

    /** The first days of the calendar's parts. */
    private static final class Days {
        static final int DAY = 0;
        static final int WEEK = 1;
        // 2 is the month, which is what is left when the others are out.
        static final int QUARTER = 3;
        static final int YEAR = 4;

        /** From Monday to Thursday, the weekday of day 0. */
        private static final int MONDAY_TO_DAY_0 = 3;
        /** The calendar comes again after 400 years; the year 0 begins such a span. */
        private static final int DAYS_OF_400_YEARS = 146097;
        private static final int YEAR_0_TO_DAY_0 = 719528;
        private static final int FEBRUARY = 1;
        /** Where the months of a year of 365 days begin. */
        private static final int[] MONTH_STARTS = {0, 31, 59, 90, 120, 151, 181, 212, 243, 273, 304, 334};

        private Days() {
        }

        static int firstDay(int day, int part) {
            if (part == DAY) {
                return day;
            }
            if (part == WEEK) {
                return day - Math.floorMod(day + MONDAY_TO_DAY_0, 7);
            }
            int inSpan = Math.floorMod(day + YEAR_0_TO_DAY_0, DAYS_OF_400_YEARS);
            // Years have 365.2425 days on average; this lands on the year or one beside it.
            int year = (int) (inSpan * 400L / DAYS_OF_400_YEARS);
            if (yearStart(year) > inSpan) {
                year--;
            } else if (yearStart(year + 1) <= inSpan) {
                year++;
            }
            int inYear = inSpan - yearStart(year);
            if (part == YEAR) {
                return day - inYear;
            }
            boolean leap = yearStart(year + 1) - yearStart(year) == 366;
            return day - inYear + partStart(inYear, leap, part == QUARTER ? 3 : 1);
        }

        /** Where a year (0 .. 400) of a span begins; the span's first year is a leap year. */
        private static int yearStart(int year) {
            return 365 * year + (year + 3) / 4 - (year + 99) / 100 + (year + 399) / 400;
        }

        /** Where the last part of so many months begins that is not behind the day. */
        private static int partStart(int inYear, boolean leap, int months) {
            int start = 0;
            for (int m = 0; m < MONTH_STARTS.length; m++) {
                int monthStart = MONTH_STARTS[m] + (leap && m > FEBRUARY ? 1 : 0);
                if (monthStart <= inYear && m % months == 0) {
                    start = monthStart;
                }
            }
            return start;
        }
    }

    /** The different keys of one object. */
    private static final class KeyRow {
        /** Each value is in all ranges at the most, and that is the most keys that a value has. */
        private static final int MOST = MOST_VALUES * MOST_RANGES;

        int count;
        final int[] keys;

        KeyRow() {
            count = 0;
            keys = new int[MOST];
        }

        void startOver() {
            count = 0;
        }

        void add(int key) {
            for (int k = 0; k < count; k++) {
                if (keys[k] == key) {
                    return;
                }
            }
            if (count < MOST) {
                keys[count] = key;
                count++;
            }
        }
    }

    /** Sorts rows of numbers, the least first, by merging ever longer pieces. */
    private static final class Sorter {
        private final long[] spare;

        Sorter() {
            spare = new long[GroupList.MOST_PAIRS];
        }

        void sort(long[] row, int count) {
            int n = Math.min(count, Math.min(row.length, spare.length));
            for (int width = 1; width < n; width *= 2) {
                for (int from = 0; from < n; from += 2 * width) {
                    merge(row, from, Math.min(from + width, n), Math.min(from + 2 * width, n));
                }
                System.arraycopy(spare, 0, row, 0, n);
            }
        }

        private void merge(long[] row, int from, int middle, int to) {
            int left = from;
            int right = middle;
            for (int at = from; at < to; at++) {
                if (left < middle && (right >= to || row[left] <= row[right])) {
                    spare[at] = row[left];
                    left++;
                } else {
                    spare[at] = row[right];
                    right++;
                }
            }
        }
    }

    /**
     * The groups of one facet. Pairs of a key and an object, sorted, hold each group's objects side by side;
     * a group is a run of them. Groups stand by key; ranks tell which of them is the one of a number.
     */
    private static final class GroupList {
        /** Each value of a path has 3 keys, and no other kind gives an object more different ones. */
        static final int MOST_PAIRS = MOST_OBJECTS * MOST_VALUES * 3;

        /** Above all keys, so that the missing come last. */
        private static final int MISSING_KEY = 2000000000;
        /** A pair is key * 128 + object, a rank is weight * 2048 + group: one sort of numbers serves both. */
        private static final int OBJECT_BITS = 7;
        private static final int OBJECT_MASK = 127;
        private static final int GROUP_BITS = 11;
        private static final int GROUP_MASK = 2047;

        int count;
        private int pairCount;
        private final Sorter sorter;
        private final KeyRow keyRow;
        private final long[] pairs;
        private final int[] keys;
        private final int[] starts;
        private final int[] ends;
        private final long[] ranks;

        GroupList(Sorter sorter) {
            this.sorter = sorter;
            keyRow = new KeyRow();
            pairs = new long[MOST_PAIRS];
            keys = new int[MOST_PAIRS];
            starts = new int[MOST_PAIRS];
            ends = new int[MOST_PAIRS];
            ranks = new long[MOST_PAIRS];
            count = 0;
            pairCount = 0;
        }

        void gather(Facet f, Stock stock, Hand hand) {
            pairCount = 0;
            for (int o = 0; o < stock.count; o++) {
                if (hand.has(o) && f.counts(stock, o)) {
                    f.collectKeys(stock, o, keyRow);
                    for (int k = 0; k < keyRow.count; k++) {
                        addPair(keyRow.keys[k], o);
                    }
                    if (keyRow.count == 0 && f.asksMissing) {
                        addPair(MISSING_KEY, o);
                    }
                }
            }
            sorter.sort(pairs, pairCount);
        }

        private void addPair(int key, int object) {
            if (pairCount < MOST_PAIRS) {
                pairs[pairCount] = ((long) key << OBJECT_BITS) + object;
                pairCount++;
            }
        }

        void cut(Facet f) {
            count = 0;
            int next = 0;
            // Ranges are groups even without objects; other kinds have no ranges.
            for (int r = 0; r < f.rangeCount; r++) {
                next = cutRun(f, r, next);
            }
            for (int p = next; p < pairCount; p++) {
                if (p == next) {
                    next = cutRun(f, pairKey(p), next);
                }
            }
        }

        /** Makes a group of the pairs from start on that have the key, and tells where they end. */
        private int cutRun(Facet f, int key, int start) {
            int end = start;
            while (end < pairCount && pairKey(end) == key) {
                end++;
            }
            if (end - start >= f.leastCount && count < MOST_PAIRS) {
                keys[count] = key;
                starts[count] = start;
                ends[count] = end;
                count++;
            }
            return end;
        }

        void rank(Facet f, Stock stock) {
            for (int g = 0; g < count; g++) {
                ranks[g] = g - (weight(f, stock, g) << GROUP_BITS);
            }
            boolean missingIsLast = count > 0 && keys[count - 1] == MISSING_KEY;
            sorter.sort(ranks, missingIsLast ? count - 1 : count);
        }

        /** What puts a group ahead of others; of alike ones the lesser key is ahead by its place alone. */
        private long weight(Facet f, Stock stock, int g) {
            if (f.orderedBy == BY_COUNT) {
                return ends[g] - starts[g];
            }
            long sum = 0;
            if (f.orderedBy == BY_SUM) {
                for (int p = starts[g]; p < ends[g]; p++) {
                    sum += stock.sumOf(pairObject(p), f.sumColumn);
                }
            }
            return sum;
        }

        private int pairKey(int p) {
            return (int) (pairs[p] >> OBJECT_BITS);
        }

        private int pairObject(int p) {
            return (int) (pairs[p] & OBJECT_MASK);
        }

        private int groupAt(int i) {
            return (int) (ranks[i] & GROUP_MASK);
        }

        boolean has(int i) {
            return i >= 0 && i < count;
        }

        boolean isMissing(int i) {
            return keys[groupAt(i)] == MISSING_KEY;
        }

        int keyOf(int i) {
            return isMissing(i) ? NONE : keys[groupAt(i)];
        }

        int sizeOf(int i) {
            int g = groupAt(i);
            return ends[g] - starts[g];
        }

        int memberOf(int i, int m) {
            return pairObject(starts[groupAt(i)] + m);
        }

        boolean holds(int i, int object) {
            int size = sizeOf(i);
            for (int m = 0; m < size; m++) {
                if (memberOf(i, m) == object) {
                    return true;
                }
            }
            return false;
        }

        /** The missing have no key, so no key finds them: neither NONE nor the number that stands for theirs here. */
        int numberOf(int key) {
            for (int i = 0; i < count; i++) {
                if (!isMissing(i) && keyOf(i) == key) {
                    return i;
                }
            }
            return NONE;
        }
    }

    /** The values of some objects in a column, and their figures. */
    private static final class ValueRow {
        private static final int COUNT = 0;
        private static final int SUM = 1;
        private static final int SMALLEST = 2;
        private static final int GREATEST = 3;
        private static final int DIFFERENT = 4;
        private static final int MOST = MOST_OBJECTS * MOST_VALUES;

        private int count;
        private final Sorter sorter;
        private final long[] values;

        ValueRow(Sorter sorter) {
            this.sorter = sorter;
            count = 0;
            values = new long[MOST];
        }

        void startOver() {
            count = 0;
        }

        void take(Stock stock, int object, int column) {
            int many = stock.valueCount(object, column);
            for (int k = 0; k < many && count < MOST; k++) {
                values[count] = stock.valueAt(object, column, k);
                count++;
            }
        }

        long tell(int what) {
            switch (what) {
                case COUNT:
                    return count;
                case SUM:
                    return sum();
                case SMALLEST:
                    return atPlace(1);
                case GREATEST:
                    return atPlace(count);
                case DIFFERENT:
                    return different();
                default:
                    return OUTSIDE;
            }
        }

        int atPercent(int percent) {
            return atPlace(Math.max(1, (percent * count + 99) / 100));
        }

        /** The value at a place, from 1 on, by size. */
        private int atPlace(int number) {
            if (number < 1 || number > count) {
                return NONE;
            }
            sorter.sort(values, count);
            return (int) values[number - 1];
        }

        private long sum() {
            long sum = 0;
            for (int k = 0; k < count; k++) {
                sum += values[k];
            }
            return sum;
        }

        private int different() {
            sorter.sort(values, count);
            int many = 0;
            for (int k = 0; k < count; k++) {
                if (k == 0 || values[k] != values[k - 1]) {
                    many++;
                }
            }
            return many;
        }
    }
}
