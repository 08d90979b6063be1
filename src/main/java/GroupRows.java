import java.util.Arrays;

public final class GroupRows {
    public static final int NONE = -1;
    public static final int FULL = -2;
    public static final int ALL = 2147483647;

    private static final int MOST_PARTS = 8;
    private static final int MOST_MEASURES = 8;
    private static final int MOST_ROWS = 1000;
    private static final int MOST_TIMES = 100000;
    private static final int MOST_SPREAD = 5000;

    // The leaps of a search, halved down to 1, must together reach over MOST_ROWS.
    private static final int FIRST_LEAP = 512;

    private static final int SUM = 0;
    private static final int LEAST = 1;
    private static final int GREATEST = 2;

    private int width;
    private int measures;
    private int rowCount;

    private final int[] factKey;
    private final long[] factAmounts;

    // What a row tells stays in one slot for as long as the row lives, so that a new row
    // moves slot numbers only. Every slot number stands here exactly once: first those of
    // the rows in the order of their keys, then the free ones.
    private final int[] slots;

    private final int[] keys;
    private final long[] counts;
    private final long[] sums;
    private final long[] leasts;
    private final long[] greatests;

    public GroupRows() {
        width = 0;
        measures = 1;
        rowCount = 0;
        factKey = new int[MOST_PARTS];
        factAmounts = new long[MOST_MEASURES];
        slots = new int[MOST_ROWS];
        keys = new int[MOST_ROWS * MOST_PARTS];
        counts = new long[MOST_ROWS];
        sums = new long[MOST_ROWS * MOST_MEASURES];
        leasts = new long[MOST_ROWS * MOST_MEASURES];
        greatests = new long[MOST_ROWS * MOST_MEASURES];
        for (int s = 0; s < MOST_ROWS; s++) {
            slots[s] = s;
        }
    }

    public void begin(int width, int measures) throws IllegalArgumentException {
        if (width < 0 || width > MOST_PARTS) {
            throw new IllegalArgumentException("width is not 0 .. 8");
        }
        if (measures < 1 || measures > MOST_MEASURES) {
            throw new IllegalArgumentException("measures is not 1 .. 8");
        }
        this.width = width;
        this.measures = measures;
        rowCount = 0;
        Arrays.fill(factKey, 0);
        Arrays.fill(factAmounts, 0L);
    }

    public int key(int i, int v) throws IllegalArgumentException {
        if (!isPart(i)) {
            throw new IllegalArgumentException("there is no such part");
        }
        int old = factKey[i];
        factKey[i] = v;
        return old;
    }

    public long amount(int m, long v) throws IllegalArgumentException {
        if (!isMeasure(m)) {
            throw new IllegalArgumentException("there is no such measure");
        }
        long old = factAmounts[m];
        factAmounts[m] = v;
        return old;
    }

    public int add(int n) throws IllegalArgumentException {
        if (n < 1 || n > MOST_TIMES) {
            throw new IllegalArgumentException("n is not 1 .. 100000");
        }
        return takeFact(n) ? rowCount : FULL;
    }

    public int spread(int n, int i, int step) throws IllegalArgumentException {
        if (!isPart(i)) {
            throw new IllegalArgumentException("there is no such part");
        }
        if (n < 1 || n > MOST_SPREAD) {
            throw new IllegalArgumentException("n is not 1 .. 5000");
        }
        for (int came = 0; came < n; came++) {
            // Stepping before each fact but the first leaves the last one in the making,
            // and the refused one if there is no room for it.
            if (came > 0) {
                stepFact(i, step);
            }
            if (!takeFact(1)) {
                return came;
            }
        }
        return n;
    }

    public int roll(int i) throws IllegalArgumentException {
        if (!isPart(i)) {
            throw new IllegalArgumentException("there is no such part");
        }
        for (int p = 0; p < rowCount; p++) {
            keys[slots[p] * MOST_PARTS + i] = ALL;
        }
        rowCount = regroup();
        return rowCount;
    }

    public int rows() {
        return rowCount;
    }

    public int find() {
        int place = lowerPlace(factKey, 0, rowCount);
        return isKeyAt(place, factKey, 0, rowCount) ? place : NONE;
    }

    public int keyAt(int place, int i) throws IllegalArgumentException {
        if (!isPlace(place)) {
            throw new IllegalArgumentException("there is no such row");
        }
        if (!isPart(i)) {
            throw new IllegalArgumentException("there is no such part");
        }
        return keys[slots[place] * MOST_PARTS + i];
    }

    public long count(int place) throws IllegalArgumentException {
        if (!isPlace(place)) {
            throw new IllegalArgumentException("there is no such row");
        }
        return counts[slots[place]];
    }

    public long told(int place, int m, int what) throws IllegalArgumentException {
        if (!isPlace(place)) {
            throw new IllegalArgumentException("there is no such row");
        }
        if (!isMeasure(m)) {
            throw new IllegalArgumentException("there is no such measure");
        }
        int at = slots[place] * MOST_MEASURES + m;
        switch (what) {
            case SUM:
                return sums[at];
            case LEAST:
                return leasts[at];
            case GREATEST:
                return greatests[at];
            default:
                throw new IllegalArgumentException("what is not 0 .. 2");
        }
    }

    private boolean isPart(int i) {
        return i >= 0 && i < width;
    }

    private boolean isMeasure(int m) {
        return m >= 0 && m < measures;
    }

    private boolean isPlace(int place) {
        return place >= 0 && place < rowCount;
    }

    private void stepFact(int i, int step) {
        factKey[i] += step;
        for (int m = 0; m < measures; m++) {
            factAmounts[m] += step;
        }
    }

    /** Answers whether there was room for the fact in the making. */
    private boolean takeFact(int n) {
        int place = lowerPlace(factKey, 0, rowCount);
        if (!isKeyAt(place, factKey, 0, rowCount)) {
            if (rowCount >= MOST_ROWS) {
                return false;
            }
            openRow(place);
        }
        joinFact(slots[place], n);
        return true;
    }

    /** A row that no fact has come into yet: the one in the making is to be its first. */
    private void openRow(int place) {
        int slot = slots[rowCount];
        insertSlot(slot, place, rowCount);
        rowCount++;
        System.arraycopy(factKey, 0, keys, slot * MOST_PARTS, width);
        counts[slot] = 0;
        int at = slot * MOST_MEASURES;
        for (int m = 0; m < measures; m++) {
            sums[at + m] = 0;
            leasts[at + m] = factAmounts[m];
            greatests[at + m] = factAmounts[m];
        }
    }

    private void joinFact(int slot, int n) {
        counts[slot] += n;
        int at = slot * MOST_MEASURES;
        for (int m = 0; m < measures; m++) {
            long amount = factAmounts[m];
            // A wrapping product is what n wrapping additions come to.
            sums[at + m] += amount * n;
            leasts[at + m] = Math.min(leasts[at + m], amount);
            greatests[at + m] = Math.max(greatests[at + m], amount);
        }
    }

    private void joinRow(int slot, int other) {
        counts[slot] += counts[other];
        int at = slot * MOST_MEASURES;
        int from = other * MOST_MEASURES;
        for (int m = 0; m < measures; m++) {
            sums[at + m] += sums[from + m];
            leasts[at + m] = Math.min(leasts[at + m], leasts[from + m]);
            greatests[at + m] = Math.max(greatests[at + m], greatests[from + m]);
        }
    }

    /**
     * Brings rows whose keys have changed into order again and joins those that are alike.
     * Answers how many are left.
     */
    private int regroup() {
        int kept = 0;
        for (int p = 0; p < rowCount; p++) {
            int slot = slots[p];
            int at = slot * MOST_PARTS;
            int place = lowerPlace(keys, at, kept);
            if (isKeyAt(place, keys, at, kept)) {
                joinRow(slots[place], slot);
            } else {
                // The slot of a joined row may stand behind the kept ones: it must not
                // be lost when the kept ones grow over it.
                slots[p] = slots[kept];
                insertSlot(slot, place, kept);
                kept++;
            }
        }
        return kept;
    }

    /** The place behind the first {@code among} rows is written over. */
    private void insertSlot(int slot, int place, int among) {
        System.arraycopy(slots, place, slots, place + 1, among - place);
        slots[place] = slot;
    }

    /** How many of the first {@code among} rows have a lesser key than that at parts[at ..]. */
    private int lowerPlace(int[] parts, int at, int among) {
        int place = 0;
        for (int leap = FIRST_LEAP; leap > 0; leap /= 2) {
            int next = place + leap;
            if (next <= among && compareKey(slots[next - 1], parts, at) < 0) {
                place = next;
            }
        }
        return place;
    }

    private boolean isKeyAt(int place, int[] parts, int at, int among) {
        return place < among && compareKey(slots[place], parts, at) == 0;
    }

    private int compareKey(int slot, int[] parts, int at) {
        int from = slot * MOST_PARTS;
        for (int i = 0; i < width; i++) {
            int order = Integer.compare(keys[from + i], parts[at + i]);
            if (order != 0) {
                return order;
            }
        }
        return 0;
    }
}
