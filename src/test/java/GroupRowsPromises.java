import java.util.Arrays;

// For each promise of the document: ordinary inputs, the edges it names, and wrong inputs.
public final class GroupRowsPromises {
    private static final int MIN = Integer.MIN_VALUE;
    private static final int MAX = Integer.MAX_VALUE;

    private static int wrong = 0;

    private interface Call {
        long answer();
    }

    private static void due(String call, long got, long want) {
        if (got != want) {
            wrong++;
            System.out.println(call + " answered " + got + ", due is " + want);
        }
    }

    /** A refused call throws just the document's exception, and leaves everything as it was. */
    private static void refused(GroupRows x, int width, int measures, String call, Call run) {
        String before = state(x, width, measures);
        try {
            long got = run.answer();
            wrong++;
            System.out.println(call + " answered " + got + ", due is IllegalArgumentException");
        } catch (RuntimeException e) {
            if (e.getClass() != IllegalArgumentException.class) {
                wrong++;
                System.out.println(call + " threw " + e + ", due is IllegalArgumentException");
            }
        }
        if (!before.equals(state(x, width, measures))) {
            wrong++;
            System.out.println(call + " was refused but changed the object");
        }
    }

    /** All that can be seen of an object; the fact in the making is put back as it was. */
    private static String state(GroupRows x, int width, int measures) {
        StringBuilder text = new StringBuilder();
        text.append(x.rows()).append('@').append(x.find());
        for (int i = 0; i < width; i++) {
            int v = x.key(i, 0);
            x.key(i, v);
            text.append(" k").append(v);
        }
        for (int m = 0; m < measures; m++) {
            long v = x.amount(m, 0);
            x.amount(m, v);
            text.append(" a").append(v);
        }
        for (int place = 0; place < x.rows(); place++) {
            text.append('\n').append(x.count(place));
            for (int i = 0; i < width; i++) {
                text.append(' ').append(x.keyAt(place, i));
            }
            for (int m = 0; m < measures; m++) {
                for (int what = 0; what < 3; what++) {
                    text.append(' ').append(x.told(place, m, what));
                }
            }
        }
        return text.toString();
    }

    private static GroupRows table(int width, int measures) {
        GroupRows x = new GroupRows();
        x.begin(width, measures);
        return x;
    }

    private static int addKey(GroupRows x, int n, int... key) {
        for (int i = 0; i < key.length; i++) {
            x.key(i, key[i]);
        }
        return x.add(n);
    }

    private static void dueKeys(String what, GroupRows x, int[]... keys) {
        due(what + ": rows()", x.rows(), keys.length);
        for (int place = 0; place < Math.min(keys.length, x.rows()); place++) {
            for (int i = 0; i < keys[place].length; i++) {
                due(what + ": keyAt(" + place + ", " + i + ")", x.keyAt(place, i), keys[place][i]);
            }
        }
    }

    private static void dueTold(String what, GroupRows x, int place, int m, long... told) {
        for (int w = 0; w < 3; w++) {
            due(what + ": told(" + place + ", " + m + ", " + w + ")", x.told(place, m, w), told[w]);
        }
    }

    private static void constants() {
        due("NONE", GroupRows.NONE, -1);
        due("FULL", GroupRows.FULL, -2);
        due("ALL", GroupRows.ALL, MAX);
    }

    private static void promise1NewObject() {
        GroupRows x = new GroupRows();
        due("1: rows()", x.rows(), 0);
        due("1: find()", x.find(), GroupRows.NONE);
        refused(x, 0, 1, "1: key(0, 1) at width 0", () -> x.key(0, 1));
        refused(x, 0, 1, "1: amount(1, 1) with one measure", () -> x.amount(1, 1));
        refused(x, 0, 1, "1: count(0) without rows", () -> x.count(0));
        due("1: amount(0, 4)", x.amount(0, 4), 0);
        due("1: add(1)", x.add(1), 1);
        due("1: add(1) of the one key there is", x.add(1), 1);
        due("1: find() of the empty key", x.find(), 0);
        dueTold("1", x, 0, 0, 8, 4, 4);
    }

    private static void promise2Begin() {
        for (int width = 0; width <= 8; width++) {
            for (int measures = 1; measures <= 8; measures++) {
                GroupRows x = table(width, measures);
                for (int i = 0; i < width; i++) {
                    due("2: key(i, 5)", x.key(i, 5), 0);
                }
                for (int m = 0; m < measures; m++) {
                    due("2: amount(m, 5)", x.amount(m, 5), 0);
                }
                int w = width;
                int m = measures;
                refused(x, w, m, "2: key beyond the width", () -> x.key(w, 5));
                refused(x, w, m, "2: amount beyond the measures", () -> x.amount(m, 5));
            }
        }
        promise2BeginAgain();
        promise2BeginRefused();
    }

    private static void promise2BeginAgain() {
        GroupRows x = table(8, 8);
        for (int j = 0; j < 8; j++) {
            x.key(j, j + 1);
            x.amount(j, j + 1);
        }
        x.spread(1000, 3, 1);
        x.begin(1, 1);
        x.begin(8, 8);
        due("2: rows() of a table begun again", x.rows(), 0);
        due("2: find() in a table begun again", x.find(), GroupRows.NONE);
        for (int j = 0; j < 8; j++) {
            due("2: key begun again", x.key(j, 0), 0);
            due("2: amount begun again", x.amount(j, 0), 0);
        }
        due("2: add(3) in a table begun again", x.add(3), 1);
        due("2: count(0) in a table begun again", x.count(0), 3);
        for (int m = 0; m < 8; m++) {
            dueTold("2: begun again", x, 0, m, 0, 0, 0);
        }
    }

    private static void promise2BeginRefused() {
        GroupRows x = table(2, 2);
        x.key(1, 3);
        x.amount(1, 4);
        x.add(2);
        int[][] bad = {{-1, 1}, {9, 1}, {MIN, 1}, {MAX, 1}, {0, 0}, {0, 9}, {0, -1}, {0, MIN},
            {8, MAX}, {9, 9}, {-1, 0}};
        for (int[] b : bad) {
            refused(x, 2, 2, "2: begin" + Arrays.toString(b), () -> {
                x.begin(b[0], b[1]);
                return 0;
            });
        }
    }

    private static void promise3Key() {
        GroupRows x = table(3, 1);
        due("3: key(1, 7)", x.key(1, 7), 0);
        due("3: key(1, MIN)", x.key(1, MIN), 7);
        due("3: key(1, MAX)", x.key(1, MAX), MIN);
        due("3: key(1, 0)", x.key(1, 0), MAX);
        due("3: key(0, 1) of another part", x.key(0, 1), 0);
        due("3: key(2, 2) of another part", x.key(2, 2), 0);
        x.add(1);
        due("3: key(0, 5) after add", x.key(0, 5), 1);
        due("3: keyAt of a row that stands", x.keyAt(0, 0), 1);
        for (int i : new int[] {-1, 3, 8, MIN, MAX}) {
            refused(x, 3, 1, "3: key(" + i + ", 1)", () -> x.key(i, 1));
        }
    }

    private static void promise4Amount() {
        GroupRows x = table(1, 3);
        due("4: amount(1, 7)", x.amount(1, 7), 0);
        due("4: amount(1, MIN)", x.amount(1, Long.MIN_VALUE), 7);
        due("4: amount(1, MAX)", x.amount(1, Long.MAX_VALUE), Long.MIN_VALUE);
        due("4: amount(1, 0)", x.amount(1, 0), Long.MAX_VALUE);
        due("4: amount(0, 1) of another measure", x.amount(0, 1), 0);
        due("4: amount(2, 2) of another measure", x.amount(2, 2), 0);
        x.add(1);
        due("4: amount(0, 5) after add", x.amount(0, 5), 1);
        dueTold("4: of a row that stands", x, 0, 0, 1, 1, 1);
        for (int m : new int[] {-1, 3, 8, MIN, MAX}) {
            refused(x, 1, 3, "4: amount(" + m + ", 1)", () -> x.amount(m, 1));
        }
    }

    private static void promise5Add() {
        GroupRows x = table(2, 2);
        x.amount(0, 5);
        x.amount(1, -6);
        due("5: add(1)", addKey(x, 1, 1, 2), 1);
        due("5: add(100000)", x.add(100000), 1);
        due("5: count(0)", x.count(0), 100001);
        dueTold("5", x, 0, 0, 500005, 5, 5);
        dueTold("5", x, 0, 1, -600006, -6, -6);
        x.amount(0, -9);
        x.amount(1, 11);
        due("5: add(2)", x.add(2), 1);
        dueTold("5: lesser and greater", x, 0, 0, 499987, -9, 5);
        dueTold("5: lesser and greater", x, 0, 1, -599984, -6, 11);
        due("5: add(1) of another key", addKey(x, 1, 2, 1), 2);
        dueTold("5: the other row", x, 1, 0, -9, -9, -9);
        for (int n : new int[] {0, -1, 100001, MIN, MAX}) {
            refused(x, 2, 2, "5: add(" + n + ")", () -> x.add(n));
        }
        promise5AddWraps();
        promise5AddInOrder();
        promise5AddFull();
    }

    private static void promise5AddWraps() {
        GroupRows x = table(0, 1);
        x.amount(0, Long.MAX_VALUE);
        x.add(100000);
        dueTold("5: wrapping", x, 0, 0, -100000, Long.MAX_VALUE, Long.MAX_VALUE);
        x.amount(0, Long.MIN_VALUE);
        x.add(1);
        dueTold("5: wrapping", x, 0, 0, Long.MIN_VALUE - 100000, Long.MIN_VALUE, Long.MAX_VALUE);
    }

    private static void promise5AddInOrder() {
        int[][] sorted = {{MIN, MAX}, {-1, 0}, {0, MIN}, {0, -5}, {0, 0}, {0, MAX}, {3, -9}, {MAX, MIN}};
        int[] comes = {4, 7, 0, 2, 6, 5, 1, 3};
        GroupRows x = table(2, 1);
        for (int c = 0; c < comes.length; c++) {
            x.amount(0, comes[c]);
            due("5: add in any order", addKey(x, comes[c] + 1, sorted[comes[c]]), c + 1);
        }
        dueKeys("5: order of keys", x, sorted);
        for (int place = 0; place < sorted.length; place++) {
            due("5: count goes with its key", x.count(place), place + 1);
            dueTold("5: goes with its key", x, place, 0, place * (place + 1), place, place);
        }
    }

    private static void promise5AddFull() {
        GroupRows x = table(1, 1);
        x.spread(999, 0, 2);
        due("5: add of the 1000th row", addKey(x, 1, 5000), 1000);
        x.key(0, 5001);
        String before = state(x, 1, 1);
        due("5: add of one row too many", x.add(1), GroupRows.FULL);
        due("5: state after FULL is the same (1)", before.equals(state(x, 1, 1)) ? 1 : 0, 1);
        due("5: add to a row that stands in a full table", addKey(x, 4, 0), 1000);
        due("5: count(0) in a full table", x.count(0), 5);
        refused(x, 1, 1, "5: add(0) in a full table", () -> x.add(0));
        x.key(0, 1);
        refused(x, 1, 1, "5: add(100001) of one row too many", () -> x.add(100001));
    }

    private static void promise6Spread() {
        GroupRows x = table(2, 2);
        x.key(0, 9);
        x.key(1, 10);
        x.amount(0, 100);
        x.amount(1, -1);
        due("6: spread(3, 1, -4)", x.spread(3, 1, -4), 3);
        dueKeys("6", x, new int[] {9, 2}, new int[] {9, 6}, new int[] {9, 10});
        dueTold("6", x, 0, 0, 92, 92, 92);
        dueTold("6", x, 0, 1, -9, -9, -9);
        dueTold("6", x, 2, 0, 100, 100, 100);
        due("6: the last fact is in the making", x.find(), 0);
        due("6: key(0, 9)", x.key(0, 9), 9);
        due("6: key(1, 2)", x.key(1, 2), 2);
        due("6: amount(0, 92)", x.amount(0, 92), 92);
        due("6: amount(1, -9)", x.amount(1, -9), -9);
        due("6: spread(1, 0, 7)", x.spread(1, 0, 7), 1);
        due("6: one fact steps nothing", x.key(0, 9), 9);
        due("6: count(0)", x.count(0), 2);
        due("6: spread(5000, 0, 0)", x.spread(5000, 0, 0), 5000);
        due("6: count(0) without a step", x.count(0), 5002);
        dueTold("6: without a step", x, 0, 0, 92 * 5002, 92, 92);
        for (int i : new int[] {-1, 2, 8, MIN, MAX}) {
            refused(x, 2, 2, "6: spread(1, " + i + ", 1)", () -> x.spread(1, i, 1));
        }
        for (int n : new int[] {0, -1, 5001, MIN, MAX}) {
            refused(x, 2, 2, "6: spread(" + n + ", 0, 1)", () -> x.spread(n, 0, 1));
        }
        GroupRows narrow = new GroupRows();
        refused(narrow, 0, 1, "6: spread(1, 0, 1) at width 0", () -> narrow.spread(1, 0, 1));
        promise6SpreadWraps();
        promise6SpreadStops();
    }

    private static void promise6SpreadWraps() {
        GroupRows x = table(1, 2);
        x.key(0, MAX - 1);
        x.amount(0, Long.MAX_VALUE);
        x.amount(1, MAX);
        due("6: spread over the greatest int", x.spread(3, 0, 1), 3);
        dueKeys("6: wrapping", x, new int[] {MIN}, new int[] {MAX - 1}, new int[] {MAX});
        dueTold("6: wrapping", x, 0, 0, Long.MIN_VALUE + 1, Long.MIN_VALUE + 1, Long.MIN_VALUE + 1);
        dueTold("6: an amount is a long", x, 0, 1, MAX + 2L, MAX + 2L, MAX + 2L);
        x.begin(1, 1);
        due("6: spread by the least int", x.spread(5, 0, MIN), 5);
        dueKeys("6: two keys in turn", x, new int[] {MIN}, new int[] {0});
        due("6: count(0) in turn", x.count(0), 2);
        due("6: count(1) in turn", x.count(1), 3);
        dueTold("6: in turn", x, 0, 0, 4L * MIN, 3L * MIN, MIN);
        dueTold("6: in turn", x, 1, 0, 6L * MIN, 4L * MIN, 0);
    }

    private static void promise6SpreadStops() {
        GroupRows x = table(1, 1);
        due("6: spread of more than there is room for", x.spread(5000, 0, -1), 1000);
        due("6: rows() of a full table", x.rows(), 1000);
        due("6: the refused one is in the making, its key", x.key(0, -1000), -1000);
        due("6: the refused one is in the making, its amount", x.amount(0, -1000), -1000);
        due("6: find() of the refused one", x.find(), GroupRows.NONE);
        String before = state(x, 1, 1);
        due("6: spread of a refused one", x.spread(2, 0, 1), 0);
        due("6: state after none came is the same (1)", before.equals(state(x, 1, 1)) ? 1 : 0, 1);
        x.key(0, -998);
        due("6: spread over rows that stand", x.spread(5000, 0, -1), 2);
        due("6: key of the one that was refused", x.key(0, 0), -1000);
        due("6: count(0) of one that came again", x.count(0), 2);
        due("6: spread within a full table", x.spread(1000, 0, -1), 1000);
        due("6: count(999)", x.count(999), 2);
    }

    private static void promise7Roll() {
        GroupRows x = table(3, 2);
        int[][] keys = {{1, 5, 2}, {2, 5, 1}, {1, 6, 2}, {2, 4, 2}, {3, 4, 1}};
        for (int k = 0; k < keys.length; k++) {
            x.amount(0, k * 10);
            x.amount(1, -k);
            addKey(x, k + 1, keys[k]);
        }
        due("7: roll(0) that joins none", x.roll(0), 5);
        int a = GroupRows.ALL;
        dueKeys("7: a new order", x, new int[] {a, 4, 1}, new int[] {a, 4, 2}, new int[] {a, 5, 1},
            new int[] {a, 5, 2}, new int[] {a, 6, 2});
        long[] counts = {5, 4, 2, 1, 3};
        for (int place = 0; place < 5; place++) {
            due("7: count goes with its key", x.count(place), counts[place]);
        }
        due("7: roll(1)", x.roll(1), 2);
        dueKeys("7: joined", x, new int[] {a, a, 1}, new int[] {a, a, 2});
        due("7: count(0)", x.count(0), 7);
        due("7: count(1)", x.count(1), 8);
        dueTold("7: joined", x, 0, 0, 220, 10, 40);
        dueTold("7: joined", x, 0, 1, -22, -4, -1);
        dueTold("7: joined", x, 1, 0, 180, 0, 30);
        dueTold("7: joined", x, 1, 1, -18, -3, 0);
        due("7: roll(1) again", x.roll(1), 2);
        due("7: count(1) again", x.count(1), 8);
        due("7: the fact in the making is not rolled up", x.key(0, 3), 3);
        due("7: its next part", x.key(1, 4), 4);
        for (int i : new int[] {-1, 3, 8, MIN, MAX}) {
            refused(x, 3, 2, "7: roll(" + i + ")", () -> x.roll(i));
        }
        GroupRows narrow = new GroupRows();
        refused(narrow, 0, 1, "7: roll(0) at width 0", () -> narrow.roll(0));
        due("7: roll(0) without rows", table(1, 1).roll(0), 0);
        promise7RollMeetsAll();
        promise7RollFreesRoom();
    }

    private static void promise7RollMeetsAll() {
        GroupRows x = table(1, 1);
        x.amount(0, Long.MAX_VALUE);
        addKey(x, 2, GroupRows.ALL);
        x.amount(0, Long.MIN_VALUE);
        addKey(x, 1, 5);
        due("7: roll(0) into a row that has ALL", x.roll(0), 1);
        due("7: count(0) with ALL", x.count(0), 3);
        dueTold("7: wrapping", x, 0, 0, Long.MAX_VALUE - 1, Long.MIN_VALUE, Long.MAX_VALUE);
        x.key(0, GroupRows.ALL);
        due("7: find() with ALL", x.find(), 0);
        due("7: add to a rolled row", x.add(1), 1);
        due("7: count(0) after add", x.count(0), 4);
    }

    private static void promise7RollFreesRoom() {
        GroupRows x = table(2, 1);
        for (int k = 0; k < 10; k++) {
            x.key(0, k);
            x.key(1, -7 * k);
            due("7: spread(100, 1, 1)", x.spread(100, 1, 1), 100);
        }
        due("7: roll(0) of a full table", x.roll(0), 163);
        long facts = 0;
        for (int place = 0; place < x.rows(); place++) {
            due("7: keys in order", x.keyAt(place, 1), place - 63);
            facts += x.count(place);
        }
        due("7: all facts are there", facts, 1000);
        x.key(0, 0);
        x.key(1, 0);
        x.amount(0, 1);
        due("7: spread into the freed room", x.spread(5000, 1, 1), 837);
        due("7: rows() filled again", x.rows(), 1000);
        for (int place = 0; place < 837; place++) {
            due("7: a new row's first part", x.keyAt(place, 0), 0);
            due("7: a new row's second part", x.keyAt(place, 1), place);
            due("7: a new row's count", x.count(place), 1);
            dueTold("7: a new row", x, place, 0, place + 1, place + 1, place + 1);
        }
        due("7: an old row stands", x.keyAt(837, 1), -63);
        due("7: roll(1)", x.roll(1), 2);
        due("7: count(0)", x.count(0), 837);
        due("7: count(1)", x.count(1), 1000);
    }

    private static void promise8Rows() {
        GroupRows x = table(1, 1);
        due("8: rows()", x.rows(), 0);
        for (int k = 1; k <= 20; k++) {
            addKey(x, 1, -k);
            due("8: rows() after a new key", x.rows(), k);
            x.add(1);
            due("8: rows() after an old key", x.rows(), k);
        }
        x.roll(0);
        due("8: rows() after roll", x.rows(), 1);
        x.begin(1, 1);
        due("8: rows() after begin", x.rows(), 0);
    }

    private static void promise9Find() {
        GroupRows x = table(2, 1);
        due("9: find() without rows", x.find(), GroupRows.NONE);
        x.spread(500, 0, 2);
        for (int k = 0; k < 500; k++) {
            x.key(0, 2 * k);
            due("9: find() of a row", x.find(), k);
            x.key(0, 2 * k - 1);
            due("9: find() between rows", x.find(), GroupRows.NONE);
        }
        for (int k : new int[] {MIN, -1, 999, MAX}) {
            x.key(0, k);
            due("9: find() of " + k, x.find(), GroupRows.NONE);
        }
        x.key(0, 6);
        x.key(1, 1);
        due("9: find() with another last part", x.find(), GroupRows.NONE);
        x.key(1, 0);
        due("9: find() does not look at amounts", x.find(), 3);
        due("9: find() again", x.find(), 3);
        due("9: find() adds nothing", x.rows(), 500);
    }

    private static void promise10KeyAt() {
        GroupRows x = table(8, 1);
        int[] first = {1, -2, 3, MIN, MAX, 0, 7, -8};
        int[] second = {1, -2, 3, MIN, MAX, 0, 7, -7};
        addKey(x, 1, second);
        addKey(x, 1, first);
        dueKeys("10: eight parts", x, first, second);
        for (int place : new int[] {-1, 2, 1000, MIN, MAX}) {
            refused(x, 8, 1, "10: keyAt(" + place + ", 0)", () -> x.keyAt(place, 0));
        }
        for (int i : new int[] {-1, 8, MIN, MAX}) {
            refused(x, 8, 1, "10: keyAt(0, " + i + ")", () -> x.keyAt(0, i));
        }
        x.begin(2, 1);
        refused(x, 2, 1, "10: keyAt(0, 0) without rows", () -> x.keyAt(0, 0));
        x.add(1);
        refused(x, 2, 1, "10: keyAt(0, 2) at width 2", () -> x.keyAt(0, 2));
        GroupRows narrow = new GroupRows();
        narrow.add(1);
        refused(narrow, 0, 1, "10: keyAt(0, 0) at width 0", () -> narrow.keyAt(0, 0));
    }

    private static void promise11Count() {
        GroupRows x = table(1, 1);
        addKey(x, 3, 5);
        addKey(x, 4, -5);
        addKey(x, 100000, 5);
        due("11: count(0)", x.count(0), 4);
        due("11: count(1)", x.count(1), 100003);
        x.begin(0, 1);
        for (int k = 0; k < 300; k++) {
            x.add(100000);
        }
        due("11: count(0) of many", x.count(0), 30000000);
        for (int place : new int[] {-1, 1, 1000, MIN, MAX}) {
            refused(x, 0, 1, "11: count(" + place + ")", () -> x.count(place));
        }
    }

    private static void promise12Told() {
        GroupRows x = table(1, 8);
        for (int m = 0; m < 8; m++) {
            x.amount(m, m - 4);
        }
        addKey(x, 2, 1);
        for (int m = 0; m < 8; m++) {
            x.amount(m, 10 * m - 40);
        }
        addKey(x, 3, 1);
        addKey(x, 1, 0);
        for (int m = 0; m < 8; m++) {
            long small = m - 4;
            dueTold("12", x, 1, m, 32 * small, Math.min(small, 10 * small), Math.max(small, 10 * small));
            dueTold("12", x, 0, m, 10 * small, 10 * small, 10 * small);
        }
        for (int place : new int[] {-1, 2, 1000, MIN, MAX}) {
            refused(x, 1, 8, "12: told(" + place + ", 0, 0)", () -> x.told(place, 0, 0));
        }
        for (int m : new int[] {-1, 8, MIN, MAX}) {
            refused(x, 1, 8, "12: told(0, " + m + ", 0)", () -> x.told(0, m, 0));
        }
        for (int what : new int[] {-1, 3, MIN, MAX}) {
            refused(x, 1, 8, "12: told(0, 0, " + what + ")", () -> x.told(0, 0, what));
        }
        x.begin(1, 2);
        refused(x, 1, 2, "12: told(0, 0, 0) without rows", () -> x.told(0, 0, 0));
        x.add(1);
        refused(x, 1, 2, "12: told(0, 2, 0) with two measures", () -> x.told(0, 2, 0));
    }

    public static void main(String[] args) {
        constants();
        promise1NewObject();
        promise2Begin();
        promise3Key();
        promise4Amount();
        promise5Add();
        promise6Spread();
        promise7Roll();
        promise8Rows();
        promise9Find();
        promise10KeyAt();
        promise11Count();
        promise12Told();
        System.out.println(wrong == 0 ? "all promises hold" : wrong + " answers are not as due");
        if (wrong != 0) {
            System.exit(1);
        }
    }
}
