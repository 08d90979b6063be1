import java.util.ArrayList;
import java.util.Arrays;
import java.util.List;

// For each sentence of the document that names a boundary a test of its own, under that sentence.
public final class GroupRowsPromises {
    private static final int MIN = Integer.MIN_VALUE;
    private static final int MAX = Integer.MAX_VALUE;
    private static final long LEAST_LONG = Long.MIN_VALUE;
    private static final long GREATEST_LONG = Long.MAX_VALUE;
    private static final int NONE = GroupRows.NONE;
    private static final int FULL = GroupRows.FULL;
    private static final int ALL = GroupRows.ALL;
    private static final String REFUSED = "throws.IllegalArgumentException";

    private static String sentence = "";
    private static int wrong = 0;
    private static final List<Answer> answers = new ArrayList<>();

    private interface Call {
        long on(GroupRows x);
    }

    private static String answer(Call call, GroupRows x) {
        try {
            return Long.toString(call.on(x));
        } catch (RuntimeException e) {
            return "throws." + e.getClass().getSimpleName();
        }
    }

    private static void fault(String text) {
        wrong++;
        System.out.println(sentence + "\n    " + text);
    }

    private static void due(String what, Object got, Object want) {
        if (!got.equals(want)) {
            fault(what + " answered " + got + ", due is " + want);
        }
    }

    private static void dueState(String what, String got, String want) {
        String[] lines = got.split("\n");
        String[] dueLines = want.split("\n");
        int at = 0;
        while (at < Math.min(lines.length, dueLines.length) && lines[at].equals(dueLines[at])) {
            at++;
        }
        if (at < Math.max(lines.length, dueLines.length)) {
            fault(what + " shows " + (at < lines.length ? lines[at] : "an end") + ", due is "
                + (at < dueLines.length ? dueLines[at] : "an end"));
        }
    }

    /** What a call answered; one that throws where no test asks for it is a fault too. */
    private static final class Answer {
        private final List<Call> before;
        private final Call made;
        private final String call;
        private final String got;
        private boolean looked = false;

        private Answer(List<Call> before, Call made, String call, String got) {
            this.before = new ArrayList<>(before);
            this.made = made;
            this.call = call;
            this.got = got;
            answers.add(this);
        }

        private void is(long want) {
            looked = true;
            due(call, got, Long.toString(want));
        }

        /** It throws just the document's exception, and all stays as it was. */
        private void isRefused() {
            looked = true;
            due(call, got, REFUSED);
            isWithoutTrace();
        }

        private void isWithoutTrace() {
            List<Call> after = new ArrayList<>(before);
            after.add(made);
            dueState("the state after " + call, new Run(after).state(), new Run(before).state());
        }
    }

    /**
     * Calls on a new object. The document promises nothing of an object beyond its 512th
     * call: where that is reached, the changing calls are made again on another new object.
     */
    private static final class Run {
        private static final int MOST_CALLS = 512;

        private final List<Call> changes;
        private GroupRows object;
        private int calls;

        private Run() {
            this(new ArrayList<>());
        }

        private Run(List<Call> changes) {
            this.changes = changes;
            makeAgain();
        }

        private void makeAgain() {
            object = new GroupRows();
            for (Call change : changes) {
                answer(change, object);
            }
            calls = changes.size();
        }

        private String ask(Call call) {
            if (calls >= MOST_CALLS) {
                makeAgain();
            }
            calls++;
            if (calls > MOST_CALLS) {
                throw new IllegalStateException("this test makes too many changes");
            }
            return answer(call, object);
        }

        private Answer read(String text, Call call) {
            return new Answer(changes, call, text, ask(call));
        }

        private Answer change(String text, Call call) {
            Answer answer = read(text, call);
            changes.add(call);
            return answer;
        }

        private Answer begin(int width, int measures) {
            return change("begin(" + width + ", " + measures + ")", x -> {
                x.begin(width, measures);
                return 0;
            });
        }

        private Answer key(int i, int v) {
            return change("key(" + i + ", " + v + ")", x -> x.key(i, v));
        }

        private Answer amount(int m, long v) {
            return change("amount(" + m + ", " + v + ")", x -> x.amount(m, v));
        }

        private Answer add(int n) {
            return change("add(" + n + ")", x -> x.add(n));
        }

        private Answer spread(int n, int i, int step) {
            return change("spread(" + n + ", " + i + ", " + step + ")", x -> x.spread(n, i, step));
        }

        private Answer roll(int i) {
            return change("roll(" + i + ")", x -> x.roll(i));
        }

        private Answer rows() {
            return read("rows()", x -> x.rows());
        }

        private Answer find() {
            return read("find()", x -> x.find());
        }

        private Answer keyAt(int place, int i) {
            return read("keyAt(" + place + ", " + i + ")", x -> x.keyAt(place, i));
        }

        private Answer count(int place) {
            return read("count(" + place + ")", x -> x.count(place));
        }

        private Answer told(int place, int m, int what) {
            return read("told(" + place + ", " + m + ", " + what + ")", x -> x.told(place, m, what));
        }

        private void toldIs(int place, int m, long sum, long least, long greatest) {
            told(place, m, 0).is(sum);
            told(place, m, 1).is(least);
            told(place, m, 2).is(greatest);
        }

        private Run fact(int... key) {
            for (int i = 0; i < key.length; i++) {
                key(i, key[i]);
            }
            return this;
        }

        private Run amounts(long... amounts) {
            for (int m = 0; m < amounts.length; m++) {
                amount(m, amounts[m]);
            }
            return this;
        }

        private void keyOfFactIs(int... key) {
            Run copy = new Run(new ArrayList<>(changes));
            for (int i = 0; i < key.length; i++) {
                copy.key(i, 0).is(key[i]);
            }
        }

        private void amountsOfFactAre(long... amounts) {
            Run copy = new Run(new ArrayList<>(changes));
            for (int m = 0; m < amounts.length; m++) {
                copy.amount(m, 0).is(amounts[m]);
            }
        }

        private void keysAre(int[]... keys) {
            rows().is(keys.length);
            for (int place = 0; place < keys.length; place++) {
                for (int i = 0; i < keys[place].length; i++) {
                    keyAt(place, i).is(keys[place][i]);
                }
            }
        }

        /** All that can be seen of an object. */
        private String state() {
            Run copy = new Run(new ArrayList<>(changes));
            StringBuilder text = new StringBuilder("found at " + copy.ask(x -> x.find()) + ", in the making");
            for (int j = 0; j < 8; j++) {
                int at = j;
                text.append(' ').append(copy.ask(x -> x.key(at, 0)));
                text.append(' ').append(copy.ask(x -> x.amount(at, 0)));
            }
            return text.append(", ").append(table()).toString();
        }

        /** All that can be seen of the rows. */
        private String table() {
            Run copy = new Run(new ArrayList<>(changes));
            StringBuilder text = new StringBuilder(copy.ask(x -> x.rows()) + " rows:");
            boolean some = true;
            for (int place = 0; some; place++) {
                int p = place;
                String count = copy.ask(x -> x.count(p));
                some = !count.equals(REFUSED) && place <= 1000;
                text.append(some ? "\n" + count + copy.row(p) : "");
            }
            return text.toString();
        }

        private String row(int place) {
            StringBuilder text = new StringBuilder();
            String part = "";
            for (int i = 0; i <= 8 && !part.equals(REFUSED); i++) {
                int at = i;
                part = ask(x -> x.keyAt(place, at));
                text.append(" k").append(part);
            }
            String told = "";
            for (int at = 0; at <= 24 && !told.equals(REFUSED); at++) {
                int m = at / 3;
                int what = at % 3;
                told = ask(x -> x.told(place, m, what));
                text.append(" t").append(told);
            }
            return text.toString();
        }
    }

    private static void test(String quote, Runnable test) {
        sentence = quote;
        answers.clear();
        test.run();
        for (Answer a : answers) {
            if (!a.looked && a.got.startsWith("throws.")) {
                fault(a.call + " answered " + a.got + ", due is an answer");
            }
        }
    }

    private static Run table(int width, int measures) {
        Run r = new Run();
        r.begin(width, measures);
        return r;
    }

    /** Rows with the keys 0, 2, .. 1998 in part 0, and 0 in the others. */
    private static Run fullTable(int width, int measures) {
        Run r = table(width, measures);
        r.spread(1000, 0, 2);
        return r;
    }

    /** Three rows, a fact in the making that is none of them, and no two numbers alike. */
    private static Run smallTable() {
        Run r = table(2, 2);
        r.fact(3, 4).amounts(50, -60).add(7);
        r.fact(-3, 5).amounts(-51, 61).add(8);
        r.fact(3, -4).amounts(52, 62).add(9);
        r.fact(11, 12).amounts(13, 14);
        return r;
    }

    private static int[] outside(int least, int greatest) {
        return new int[] {MIN, MIN + 1, -1000, least - 1, greatest + 1, greatest + 1000, MAX - 1, MAX};
    }

    private static List<int[]> orders(int n) {
        List<int[]> orders = new ArrayList<>();
        orders.add(new int[0]);
        for (int length = 0; length < n; length++) {
            List<int[]> longer = new ArrayList<>();
            for (int[] order : orders) {
                for (int at = 0; at <= length; at++) {
                    int[] next = Arrays.copyOf(order, length + 1);
                    System.arraycopy(order, at, next, at + 1, length - at);
                    next[at] = length;
                    longer.add(next);
                }
            }
            orders = longer;
        }
        return orders;
    }

    private static void whatItIs() {
        test("What it is: whatever the order in which they come", () -> {
            int[][] keys = {{1, 2}, {1, -2}, {0, 7}, {1, 2}, {ALL, MIN}};
            String first = null;
            for (int[] order : orders(keys.length)) {
                Run r = table(2, 2);
                for (int k : order) {
                    r.fact(keys[k]).amounts(GREATEST_LONG - k, k - 2).add(k + 1);
                }
                first = first == null ? r.table() : first;
                dueState("the table of the order " + Arrays.toString(order), r.table(), first);
            }
        });
        test("What it is: however often they are put together again with fewer keys", () -> {
            int[][] keys = {{1, 2, 3}, {1, 2, 4}, {1, 5, 3}, {6, 2, 3}, {6, 5, 4}};
            for (int[] order : orders(3)) {
                Run r = table(3, 1);
                for (int k = 0; k < keys.length; k++) {
                    r.fact(keys[k]).amounts(10 * k - 20).add(k + 1);
                }
                for (int i : order) {
                    r.roll(i);
                    String rolled = r.table();
                    r.roll(i);
                    dueState("the table after roll(" + i + ") again", r.table(), rolled);
                }
                r.keysAre(new int[] {ALL, ALL, ALL});
                r.count(0).is(15);
                r.toldIs(0, 0, 100, -20, 20);
            }
        });
        test("What it is: put together again between the facts or after them is alike", () -> {
            Run between = table(2, 1);
            Run after = table(2, 1);
            for (int k = 0; k < 30; k++) {
                between.fact(ALL, k % 7).amounts(k * k).add(1 + k % 3);
                between.roll(0);
                after.fact(-k, k % 7).amounts(k * k).add(1 + k % 3);
            }
            after.roll(0);
            dueState("the table rolled up after each fact", between.table(), after.table());
        });
        test("What it is: An object is used for at most 512 calls after it has been made", () -> {
            GroupRows x = new GroupRows();
            for (int call = 1; call < 512; call++) {
                due("add, call " + call, x.add(100000), 1);
            }
            due("count(0), call 512", x.count(0), 51100000L);
            GroupRows wide = new GroupRows();
            wide.begin(8, 8);
            for (int call = 2; call < 512; call++) {
                due("spread, call " + call, wide.spread(5000, 7, MAX), call == 2 ? 1000 : 0);
            }
            due("rows(), call 512", wide.rows(), 1000);
        });
    }

    private static void constants() {
        test("Terms: NONE = -1", () -> due("NONE", GroupRows.NONE, -1));
        test("Terms: FULL = -2", () -> due("FULL", GroupRows.FULL, -2));
        test("Terms: ALL = 2147483647", () -> due("ALL", GroupRows.ALL, 2147483647));
        test("Terms: ALL is the greatest int", () -> due("ALL", GroupRows.ALL, Integer.MAX_VALUE));
    }

    private static void termsOfTheTable() {
        test("Terms: THE TABLE has a WIDTH, 0 .. 8", () -> {
            for (int width = 0; width <= 8; width++) {
                Run r = table(width, 3);
                for (int i = 0; i < width; i++) {
                    r.key(i, i + 1).is(0);
                    r.key(i, i + 1).is(i + 1);
                }
                r.key(width, 1).isRefused();
                r.add(1).is(1);
                for (int i = 0; i < width; i++) {
                    r.keyAt(0, i).is(i + 1);
                }
                r.keyAt(0, width).isRefused();
            }
        });
        test("Terms: and MEASURES, 1 .. 8", () -> {
            for (int measures = 1; measures <= 8; measures++) {
                Run r = table(3, measures);
                for (int m = 0; m < measures; m++) {
                    r.amount(m, m + 1).is(0);
                    r.amount(m, m + 1).is(m + 1);
                }
                r.amount(measures, 1).isRefused();
                r.add(2).is(1);
                for (int m = 0; m < measures; m++) {
                    r.toldIs(0, m, 2 * m + 2, m + 1, m + 1);
                }
                r.told(0, measures, 0).isRefused();
            }
        });
        test("Terms: A KEY has as many parts (ints) as the table is wide", () -> {
            for (int width = 1; width <= 8; width++) {
                for (int i = 0; i < width; i++) {
                    Run r = table(width, 1);
                    r.add(1).is(1);
                    r.key(i, MIN).is(0);
                    r.add(2).is(2);
                    r.key(i, MAX).is(MIN);
                    r.add(3).is(3);
                    r.count(0).is(2);
                    r.count(1).is(1);
                    r.count(2).is(3);
                    r.keyAt(0, i).is(MIN);
                    r.keyAt(2, i).is(MAX);
                }
            }
        });
        test("Terms: There is at most one ROW for a key", () -> {
            Run r = table(8, 1);
            r.fact(1, 2, 3, 4, 5, 6, 7, 8).add(1).is(1);
            r.add(1).is(1);
            r.key(7, 9);
            r.add(1).is(2);
            r.key(7, 7);
            r.add(1).is(3);
            r.key(7, 8);
            r.add(1).is(3);
            r.count(1).is(3);
        });
        test("Terms: at most one ROW for a key, also for that without parts", () -> {
            Run r = table(0, 8);
            r.add(1).is(1);
            r.amounts(1, 2, 3, 4, 5, 6, 7, 8).add(1).is(1);
            r.rows().is(1);
            r.count(0).is(2);
            r.toldIs(0, 7, 8, 0, 8);
        });
        test("Terms: 1000 rows at most", () -> {
            for (int width = 1; width <= 8; width++) {
                Run r = table(width, 1);
                r.spread(999, width - 1, 1).is(999);
                r.rows().is(999);
                r.key(0, -1);
                r.add(1).is(1000);
                r.key(0, -2);
                r.add(1).is(FULL);
                r.rows().is(1000);
            }
        });
    }

    private static void termsOfARow() {
        test("Terms: for each measure the sum (wrapping, as longs), past the greatest", () -> {
            Run r = table(0, 2);
            r.amounts(GREATEST_LONG, 0).add(1);
            r.told(0, 0, 0).is(GREATEST_LONG);
            r.amounts(1, 0).add(1);
            r.told(0, 0, 0).is(LEAST_LONG);
            r.told(0, 1, 0).is(0);
        });
        test("Terms: for each measure the sum (wrapping, as longs), past the least", () -> {
            Run r = table(0, 2);
            r.amounts(0, LEAST_LONG).add(1);
            r.told(0, 1, 0).is(LEAST_LONG);
            r.amounts(0, -1).add(1);
            r.told(0, 1, 0).is(GREATEST_LONG);
            r.told(0, 0, 0).is(0);
        });
        test("Terms: the sum, as longs: past what an int holds", () -> {
            Run r = table(0, 1);
            r.amounts(MAX).add(100000);
            r.told(0, 0, 0).is(214748364700000L);
            r.amounts(MIN).add(100000);
            r.told(0, 0, 0).is(-100000);
        });
        test("Terms: the least amount, of none but the row's facts", () -> {
            Run r = table(0, 1);
            r.amounts(GREATEST_LONG).add(2);
            r.told(0, 0, 1).is(GREATEST_LONG);
            r.amounts(7).add(2);
            r.told(0, 0, 1).is(7);
            r.amounts(8).add(2);
            r.told(0, 0, 1).is(7);
            r.amounts(-1).add(2);
            r.told(0, 0, 1).is(-1);
            r.amounts(LEAST_LONG).add(2);
            r.told(0, 0, 1).is(LEAST_LONG);
        });
        test("Terms: the greatest amount, of none but the row's facts", () -> {
            Run r = table(0, 1);
            r.amounts(LEAST_LONG).add(2);
            r.told(0, 0, 2).is(LEAST_LONG);
            r.amounts(-7).add(2);
            r.told(0, 0, 2).is(-7);
            r.amounts(-8).add(2);
            r.told(0, 0, 2).is(-7);
            r.amounts(1).add(2);
            r.told(0, 0, 2).is(1);
            r.amounts(GREATEST_LONG).add(2);
            r.told(0, 0, 2).is(GREATEST_LONG);
        });
        test("Terms: Rows are in the order of their keys, a lesser one first", () -> {
            int[][] sorted = {{MIN}, {MIN + 1}, {-1}, {0}, {1}, {MAX - 1}, {MAX}};
            for (int[] comes : new int[][] {{0, 1, 2, 3, 4, 5, 6}, {6, 5, 4, 3, 2, 1, 0}, {3, 6, 0, 5, 2, 4, 1}}) {
                Run r = table(1, 1);
                for (int k : comes) {
                    r.fact(sorted[k]).amounts(k).add(k + 1);
                }
                r.keysAre(sorted);
                for (int place = 0; place < sorted.length; place++) {
                    r.count(place).is(place + 1);
                    r.toldIs(place, 0, place * (place + 1), place, place);
                }
            }
        });
        test("Terms: by the first part that differs", () -> {
            int[][] sorted = {{MIN, MAX, MAX}, {0, MIN, MAX}, {0, 0, MIN}, {0, 0, 0}, {0, 0, MAX}, {0, 1, MIN},
                {1, MIN, MIN}};
            Run r = table(3, 1);
            for (int k : new int[] {5, 2, 6, 0, 3, 1, 4}) {
                r.fact(sorted[k]).add(k + 1);
            }
            r.keysAre(sorted);
            for (int place = 0; place < sorted.length; place++) {
                r.count(place).is(place + 1);
            }
        });
        test("Terms: by the first part that differs, which is the last of eight", () -> {
            Run r = table(8, 1);
            r.fact(5, 5, 5, 5, 5, 5, 5, 1).add(1);
            r.fact(5, 5, 5, 5, 5, 5, 5, -1).add(2);
            r.fact(5, 5, 5, 5, 5, 5, 4, 9).add(3);
            r.keysAre(new int[] {5, 5, 5, 5, 5, 5, 4, 9}, new int[] {5, 5, 5, 5, 5, 5, 5, -1},
                new int[] {5, 5, 5, 5, 5, 5, 5, 1});
        });
    }

    private static void termsOfTheFact() {
        test("Terms: THE FACT IN THE MAKING has a key and an amount, all 0 when a table is begun", () -> {
            Run r = table(8, 8);
            r.keyOfFactIs(0, 0, 0, 0, 0, 0, 0, 0);
            r.amountsOfFactAre(0, 0, 0, 0, 0, 0, 0, 0);
            r.fact(1, 2, 3, 4, 5, 6, 7, 8).amounts(1, 2, 3, 4, 5, 6, 7, 8);
            r.begin(8, 8);
            r.keyOfFactIs(0, 0, 0, 0, 0, 0, 0, 0);
            r.amountsOfFactAre(0, 0, 0, 0, 0, 0, 0, 0);
        });
        test("Terms: all 0 when a table is begun, also what a narrower one between them did not have", () -> {
            Run r = table(8, 8);
            r.fact(1, 2, 3, 4, 5, 6, 7, 8).amounts(1, 2, 3, 4, 5, 6, 7, 8);
            r.begin(0, 1);
            r.amountsOfFactAre(0);
            r.begin(8, 8);
            r.keyOfFactIs(0, 0, 0, 0, 0, 0, 0, 0);
            r.amountsOfFactAre(0, 0, 0, 0, 0, 0, 0, 0);
        });
        test("Terms: all 0 when a table is begun, so for a new object too", () -> {
            Run r = new Run();
            r.amountsOfFactAre(0);
            r.add(3).is(1);
            r.toldIs(0, 0, 0, 0, 0);
        });
    }

    private static void termsOfRefusals() {
        test("Terms: a number is out of its bounds; a call that throws changes nothing", () -> {
            Run r = smallTable();
            r.begin(9, 1).isRefused();
            r.begin(1, 9).isRefused();
            r.key(2, 77).isRefused();
            r.amount(2, 77).isRefused();
            r.add(100001).isRefused();
            r.spread(5001, 0, 1).isRefused();
            r.spread(5000, 2, 1).isRefused();
            r.roll(2).isRefused();
            r.keyAt(0, 2).isRefused();
            r.told(0, 2, 0).isRefused();
            r.told(0, 0, 3).isRefused();
            dueState("the table after all refusals", r.state(), smallTable().state());
        });
        test("Terms: or there is no such row", () -> {
            Run r = smallTable();
            r.keyAt(3, 0).isRefused();
            r.count(3).isRefused();
            r.told(3, 0, 0).isRefused();
        });
        test("Terms: Of several exceptions the one named first is thrown", () -> {
            Run r = smallTable();
            r.begin(-1, 0).isRefused();
            r.begin(9, 9).isRefused();
            r.spread(0, 2, 1).isRefused();
            r.spread(5001, -1, 1).isRefused();
            r.keyAt(3, 2).isRefused();
            r.keyAt(-1, -1).isRefused();
            r.told(3, 2, 3).isRefused();
            r.told(-1, -1, -1).isRefused();
            r.told(0, 2, 3).isRefused();
        });
        test("Terms: a call that throws changes nothing, in a full table either", () -> {
            Run r = fullTable(2, 2);
            r.key(1, 9);
            r.begin(-1, 1).isRefused();
            r.add(0).isRefused();
            r.spread(0, 0, 1).isRefused();
            r.roll(-1).isRefused();
            r.count(1000).isRefused();
        });
    }

    private static void promise1() {
        test("Promise 1: A table of width 0", () -> {
            Run r = new Run();
            r.key(0, 1).isRefused();
            r.key(-1, 1).isRefused();
            r.spread(1, 0, 1).isRefused();
            r.roll(0).isRefused();
            r.add(1).is(1);
            r.keyAt(0, 0).isRefused();
        });
        test("Promise 1: with one measure", () -> {
            Run r = new Run();
            r.amount(0, 4).is(0);
            r.amount(1, 4).isRefused();
            r.add(2).is(1);
            r.toldIs(0, 0, 8, 4, 4);
            r.told(0, 1, 0).isRefused();
        });
        test("Promise 1: without rows", () -> {
            Run r = new Run();
            r.rows().is(0);
            r.find().is(NONE);
            r.count(0).isRefused();
            r.told(0, 0, 0).isRefused();
            r.keyAt(0, 0).isRefused();
        });
    }

    private static void promise2() {
        test("Promise 2: Begins a table without rows", () -> {
            Run r = smallTable();
            r.begin(2, 2).is(0);
            r.rows().is(0);
            r.count(0).isRefused();
            dueState("the table begun again", r.state(), table(2, 2).state());
        });
        test("Promise 2: Begins a table without rows, of every width and number of measures", () -> {
            for (int width = 0; width <= 8; width++) {
                for (int measures = 1; measures <= 8; measures++) {
                    Run r = fullTable(8, 8);
                    r.begin(width, measures).is(0);
                    dueState("the table begun again", r.state(), table(width, measures).state());
                    r.add(5).is(1);
                    r.toldIs(0, measures - 1, 0, 0, 0);
                    r.count(0).is(5);
                }
            }
        });
        test("Promise 2: without rows, then with room for 1000 again", () -> {
            Run r = fullTable(1, 1);
            r.begin(3, 1);
            r.key(2, -500);
            r.spread(1001, 2, 1).is(1000);
            r.rows().is(1000);
            r.roll(2).is(1);
            r.begin(1, 1);
            r.spread(1001, 0, -1).is(1000);
            r.keyAt(0, 0).is(-999);
            r.keyAt(999, 0).is(0);
        });
        test("Promise 2: Illegal argument: width is not 0 .. 8", () -> {
            Run r = smallTable();
            for (int width : outside(0, 8)) {
                r.begin(width, 1).isRefused();
                r.begin(width, 8).isRefused();
            }
        });
        test("Promise 2: or measures not 1 .. 8", () -> {
            Run r = smallTable();
            for (int measures : outside(1, 8)) {
                r.begin(0, measures).isRefused();
                r.begin(8, measures).isRefused();
            }
        });
    }

    private static void promise3() {
        test("Promise 3: Part i of the key of the fact in the making becomes v: what it was", () -> {
            for (int i = 0; i < 8; i++) {
                Run r = table(8, 1);
                r.key(i, MIN).is(0);
                r.key(i, MAX).is(MIN);
                r.key(i, -1).is(MAX);
                int[] key = new int[8];
                key[i] = -1;
                r.keyOfFactIs(key);
                r.amountsOfFactAre(0);
                r.add(1).is(1);
                r.keysAre(key);
            }
        });
        test("Promise 3: of the fact in the making, not of a row", () -> {
            Run r = table(2, 1);
            r.fact(1, 2).add(1);
            r.key(0, 5).is(1);
            r.keysAre(new int[] {1, 2});
        });
        test("Promise 3: Illegal argument", () -> {
            for (int width = 0; width <= 8; width++) {
                Run r = table(width, 1);
                for (int i : outside(0, width - 1)) {
                    r.key(i, 1).isRefused();
                }
            }
        });
    }

    private static void promise4() {
        test("Promise 4: The amount of measure m of the fact in the making becomes v: what it was", () -> {
            for (int m = 0; m < 8; m++) {
                Run r = table(1, 8);
                r.amount(m, LEAST_LONG).is(0);
                r.amount(m, GREATEST_LONG).is(LEAST_LONG);
                r.amount(m, -1).is(GREATEST_LONG);
                long[] amounts = new long[8];
                amounts[m] = -1;
                r.amountsOfFactAre(amounts);
                r.keyOfFactIs(0);
                r.add(1).is(1);
                for (int other = 0; other < 8; other++) {
                    r.toldIs(0, other, amounts[other], amounts[other], amounts[other]);
                }
            }
        });
        test("Promise 4: of the fact in the making, not of a row", () -> {
            Run r = table(0, 2);
            r.amounts(1, 2).add(1);
            r.amount(0, 5).is(1);
            r.toldIs(0, 0, 1, 1, 1);
        });
        test("Promise 4: Illegal argument", () -> {
            for (int measures = 1; measures <= 8; measures++) {
                Run r = table(1, measures);
                for (int m : outside(0, measures - 1)) {
                    r.amount(m, 1).isRefused();
                }
            }
        });
    }

    private static void promise5() {
        test("Promise 5: The fact in the making comes into the table, n times: once", () -> {
            Run r = table(2, 2);
            r.fact(1, 2).amounts(5, -6).add(1).is(1);
            r.keysAre(new int[] {1, 2});
            r.count(0).is(1);
            r.toldIs(0, 0, 5, 5, 5);
            r.toldIs(0, 1, -6, -6, -6);
        });
        test("Promise 5: n times: 100000 times", () -> {
            Run r = table(2, 2);
            r.fact(1, 2).amounts(5, -6).add(100000).is(1);
            r.count(0).is(100000);
            r.toldIs(0, 0, 500000, 5, 5);
            r.toldIs(0, 1, -600000, -6, -6);
            r.add(99999).is(1);
            r.count(0).is(199999);
            r.told(0, 0, 0).is(999995);
        });
        test("Promise 5: n times, the sum wrapping within one call", () -> {
            Run r = table(0, 2);
            r.amounts(GREATEST_LONG, LEAST_LONG).add(100000);
            r.toldIs(0, 0, -100000, GREATEST_LONG, GREATEST_LONG);
            r.toldIs(0, 1, 0, LEAST_LONG, LEAST_LONG);
            r.add(99999);
            r.toldIs(0, 0, -100000 + (GREATEST_LONG - 99998), GREATEST_LONG, GREATEST_LONG);
            r.toldIs(0, 1, LEAST_LONG, LEAST_LONG, LEAST_LONG);
        });
        test("Promise 5: the fact in the making stays as it is", () -> {
            Run r = table(2, 2);
            r.fact(1, 2).amounts(5, -6).add(9);
            r.keyOfFactIs(1, 2);
            r.amountsOfFactAre(5, -6);
        });
        test("Promise 5: how many rows there are", () -> {
            Run r = table(1, 1);
            r.add(1).is(1);
            r.add(1).is(1);
            r.key(0, 1);
            r.add(1).is(2);
            r.key(0, -1);
            r.add(1).is(3);
            r.key(0, 0);
            r.add(1).is(3);
        });
        test("Promise 5: FULL (then it does not come)", () -> {
            for (int key : new int[] {MIN, -1, 1, 999, 1997, 1999, MAX}) {
                Run r = fullTable(1, 1);
                r.key(0, key);
                r.amount(0, 77);
                Answer full = r.add(3);
                full.is(FULL);
                full.isWithoutTrace();
                r.add(100000).is(FULL);
                r.rows().is(1000);
                r.find().is(NONE);
            }
        });
        test("Promise 5: not FULL for the key of a row, in a full table either", () -> {
            Run r = fullTable(1, 1);
            for (int key : new int[] {0, 2, 1000, 1996, 1998}) {
                r.key(0, key);
                r.amount(0, -1);
                r.add(4).is(1000);
                r.count(key / 2).is(5);
                r.toldIs(key / 2, 0, key - 4, -1, key);
            }
        });
        test("Promise 5: the 1000th row comes, the next does not", () -> {
            Run r = table(1, 1);
            r.spread(999, 0, 1).is(999);
            r.key(0, MIN);
            r.add(2).is(1000);
            r.count(0).is(2);
            r.key(0, MAX);
            r.add(2).is(FULL);
            r.keyAt(999, 0).is(998);
        });
        test("Promise 5: Illegal argument: n is not 1 .. 100000", () -> {
            Run r = smallTable();
            for (int n : outside(1, 100000)) {
                r.add(n).isRefused();
            }
        });
        test("Promise 5: Illegal argument, also where it would be FULL", () -> {
            Run r = fullTable(1, 1);
            r.key(0, 1);
            for (int n : outside(1, 100000)) {
                r.add(n).isRefused();
            }
        });
    }

    private static void promise6Facts() {
        test("Promise 6: n facts come, one after the other: the one in the making alone", () -> {
            Run r = table(2, 2);
            r.fact(9, 10).amounts(100, -1).spread(1, 1, 7).is(1);
            r.keysAre(new int[] {9, 10});
            r.count(0).is(1);
            r.toldIs(0, 0, 100, 100, 100);
            r.keyOfFactIs(9, 10);
            r.amountsOfFactAre(100, -1);
        });
        test("Promise 6: and each next one with part i of its key, and all amounts, greater by step", () -> {
            for (int i = 0; i < 8; i++) {
                Run r = table(8, 8);
                r.fact(1, 2, 3, 4, 5, 6, 7, 8).amounts(10, 20, 30, 40, 50, 60, 70, 80);
                r.spread(3, i, 5).is(3);
                r.rows().is(3);
                for (int place = 0; place < 3; place++) {
                    for (int j = 0; j < 8; j++) {
                        r.keyAt(place, j).is(j + 1 + (i == j ? 5 * place : 0));
                        long amount = 10 * j + 10 + 5 * place;
                        r.toldIs(place, j, amount, amount, amount);
                    }
                    r.count(place).is(1);
                }
            }
        });
        test("Promise 6: greater by step, which may be less than 0", () -> {
            Run r = table(1, 1);
            r.fact(1).amounts(2).spread(3, 0, -3).is(3);
            r.keysAre(new int[] {-5}, new int[] {-2}, new int[] {1});
            r.toldIs(0, 0, -4, -4, -4);
            r.toldIs(1, 0, -1, -1, -1);
            r.toldIs(2, 0, 2, 2, 2);
        });
        test("Promise 6: greater by step, which may be 0: 5000 facts of one key", () -> {
            Run r = table(1, 1);
            r.fact(4).amounts(-3).spread(5000, 0, 0).is(5000);
            r.keysAre(new int[] {4});
            r.count(0).is(5000);
            r.toldIs(0, 0, -15000, -3, -3);
        });
        test("Promise 6: (wrapping): a part past the greatest int", () -> {
            Run r = table(1, 1);
            r.fact(MAX - 1).spread(3, 0, 1).is(3);
            r.keysAre(new int[] {MIN}, new int[] {MAX - 1}, new int[] {MAX});
            r.keyOfFactIs(MIN);
        });
        test("Promise 6: (wrapping): a part past the least int", () -> {
            Run r = table(1, 1);
            r.fact(MIN).spread(2, 0, -1).is(2);
            r.keysAre(new int[] {MIN}, new int[] {MAX});
            r.keyOfFactIs(MAX);
        });
        test("Promise 6: (wrapping): an amount past the greatest long, and not past the greatest int", () -> {
            Run r = table(1, 2);
            r.amounts(GREATEST_LONG, MAX).spread(2, 0, 1).is(2);
            r.toldIs(1, 0, LEAST_LONG, LEAST_LONG, LEAST_LONG);
            r.toldIs(1, 1, MAX + 1L, MAX + 1L, MAX + 1L);
            r.amountsOfFactAre(LEAST_LONG, MAX + 1L);
        });
        test("Promise 6: (wrapping): an amount past the least long, and not past the least int", () -> {
            Run r = table(1, 2);
            r.amounts(LEAST_LONG, MIN).spread(2, 0, -1).is(2);
            r.toldIs(0, 0, GREATEST_LONG, GREATEST_LONG, GREATEST_LONG);
            r.toldIs(0, 1, MIN - 1L, MIN - 1L, MIN - 1L);
            r.amountsOfFactAre(GREATEST_LONG, MIN - 1L);
        });
        test("Promise 6: (wrapping): by the greatest and the least step", () -> {
            Run r = table(1, 1);
            r.spread(5, 0, MIN).is(5);
            r.keysAre(new int[] {MIN}, new int[] {0});
            r.count(0).is(2);
            r.count(1).is(3);
            r.toldIs(0, 0, 4L * MIN, 3L * MIN, MIN);
            r.toldIs(1, 0, 6L * MIN, 4L * MIN, 0);
            r.begin(1, 1);
            r.spread(3, 0, MAX).is(3);
            r.keysAre(new int[] {-2}, new int[] {0}, new int[] {MAX});
            r.amountsOfFactAre(2L * MAX);
        });
        test("Promise 6: that in the making is as the last one of them then", () -> {
            Run r = table(2, 2);
            r.fact(9, 10).amounts(100, -1).spread(4, 1, -4).is(4);
            r.keyOfFactIs(9, -2);
            r.amountsOfFactAre(88, -13);
            r.find().is(0);
            r.count(0).is(1);
        });
    }

    private static void promise6Room() {
        test("Promise 6: Stops before one for which there is no room", () -> {
            Run r = table(1, 1);
            r.spread(5000, 0, -1).is(1000);
            r.rows().is(1000);
            r.keyAt(0, 0).is(-999);
            r.keyAt(999, 0).is(0);
        });
        test("Promise 6: which then is the one in the making", () -> {
            Run r = table(2, 2);
            r.key(1, 6);
            r.amounts(0, 70).spread(1001, 0, -1).is(1000);
            r.keyOfFactIs(-1000, 6);
            r.amountsOfFactAre(-1000, -930);
            r.find().is(NONE);
        });
        test("Promise 6: does not stop where there is just room: the last one is in the making", () -> {
            Run r = table(1, 1);
            r.spread(1000, 0, 1).is(1000);
            r.keyOfFactIs(999);
            r.amountsOfFactAre(999);
            r.find().is(999);
        });
        test("Promise 6: Answers how many came: none, and all stays as it was", () -> {
            for (int n : new int[] {1, 2, 5000}) {
                Run r = fullTable(1, 1);
                r.key(0, 1);
                Answer none = r.spread(n, 0, 1);
                none.is(0);
                none.isWithoutTrace();
            }
        });
        test("Promise 6: Answers how many came: in a full table those that have a row", () -> {
            Run r = fullTable(1, 1);
            r.fact(1994).amounts(1).spread(5000, 0, 2).is(3);
            r.keyOfFactIs(2000);
            r.amountsOfFactAre(7);
            r.count(996).is(1);
            r.count(997).is(2);
            r.toldIs(999, 0, 2003, 5, 1998);
        });
        test("Promise 6: Answers how many came: all, in a full table of their keys", () -> {
            Run r = fullTable(1, 1);
            r.fact(0).amounts(0).spread(1000, 0, 2).is(1000);
            r.count(0).is(2);
            r.count(999).is(2);
            r.keyOfFactIs(1998);
        });
        test("Promise 6: Answers how many came: 5000 in turn in two rows of a full table", () -> {
            Run r = table(1, 1);
            r.key(0, MIN);
            r.add(1);
            r.key(0, 0);
            r.spread(999, 0, 1).is(999);
            r.key(0, 0);
            r.spread(5000, 0, MIN).is(5000);
            r.rows().is(1000);
            r.count(0).is(2501);
            r.count(1).is(2501);
        });
        test("Promise 6: Illegal argument: there is no part i", () -> {
            for (int width = 0; width <= 8; width++) {
                Run r = table(width, 1);
                r.add(1);
                for (int i : outside(0, width - 1)) {
                    r.spread(1, i, 1).isRefused();
                    r.spread(5000, i, 0).isRefused();
                }
            }
        });
        test("Promise 6: or n is not 1 .. 5000", () -> {
            Run r = smallTable();
            for (int n : outside(1, 5000)) {
                r.spread(n, 0, 1).isRefused();
                r.spread(n, 1, 0).isRefused();
            }
            Run full = fullTable(1, 1);
            full.key(0, 1);
            full.spread(0, 0, 1).isRefused();
            full.spread(5001, 0, 1).isRefused();
        });
    }

    private static void promise7() {
        test("Promise 7: Each key gets ALL as part i", () -> {
            for (int i = 0; i < 8; i++) {
                Run r = table(8, 1);
                int[] less = {1, 2, 3, 4, 5, 6, 7, 8};
                int[] more = {2, 3, 4, 5, 6, 7, 8, 9};
                r.fact(more).add(1);
                r.fact(less).add(2);
                r.roll(i).is(2);
                less[i] = ALL;
                more[i] = ALL;
                r.keysAre(less, more);
                r.count(0).is(2);
                r.count(1).is(1);
            }
        });
        test("Promise 7: Each key: that of the fact in the making is not a row's", () -> {
            Run r = smallTable();
            r.roll(0);
            r.keyOfFactIs(11, 12);
            r.amountsOfFactAre(13, 14);
        });
        test("Promise 7: Each key, of no row and of one row", () -> {
            Run r = table(1, 1);
            r.roll(0).is(0);
            r.rows().is(0);
            r.fact(MIN).amounts(6).add(2);
            r.roll(0).is(1);
            r.keysAre(new int[] {ALL});
            r.count(0).is(2);
            r.toldIs(0, 0, 12, 6, 6);
        });
        test("Promise 7: the rows are in the order of their new keys", () -> {
            Run r = table(2, 1);
            for (int k = 0; k < 6; k++) {
                r.fact(k, -k).amounts(k).add(k + 1);
            }
            r.roll(0).is(6);
            for (int place = 0; place < 6; place++) {
                r.keyAt(place, 0).is(ALL);
                r.keyAt(place, 1).is(place - 5);
                r.count(place).is(6 - place);
                r.toldIs(place, 0, (5 - place) * (6 - place), 5 - place, 5 - place);
            }
        });
        test("Promise 7: rows that are alike then become one, of all their facts", () -> {
            Run r = smallTable();
            r.fact(8, 4).amounts(-53, 63).add(10);
            r.roll(0).is(3);
            r.keysAre(new int[] {ALL, -4}, new int[] {ALL, 4}, new int[] {ALL, 5});
            r.count(0).is(9);
            r.count(1).is(17);
            r.count(2).is(8);
            r.toldIs(0, 0, 468, 52, 52);
            r.toldIs(1, 0, -180, -53, 50);
            r.toldIs(1, 1, 210, -60, 63);
            r.toldIs(2, 1, 488, 61, 61);
        });
        test("Promise 7: of all their facts, in whichever row the least and the greatest were", () -> {
            for (int wide = 0; wide < 3; wide++) {
                Run r = table(1, 2);
                for (int k = 0; k < 3; k++) {
                    int reach = k == wide ? 9 : 1;
                    r.fact(k).amounts(-reach, 100 - reach).add(1);
                    r.fact(k).amounts(reach, 100 + reach).add(1);
                }
                r.roll(0).is(1);
                r.count(0).is(6);
                r.toldIs(0, 0, 0, -9, 9);
                r.toldIs(0, 1, 600, 91, 109);
            }
        });
        test("Promise 7: of all their facts, the sum wrapping", () -> {
            Run r = table(1, 2);
            r.fact(2).amounts(GREATEST_LONG, LEAST_LONG).add(1);
            r.fact(1).amounts(GREATEST_LONG, LEAST_LONG + 1).add(2);
            r.roll(0).is(1);
            r.count(0).is(3);
            r.toldIs(0, 0, GREATEST_LONG - 2, GREATEST_LONG, GREATEST_LONG);
            r.toldIs(0, 1, LEAST_LONG + 2, LEAST_LONG, LEAST_LONG + 1);
        });
        test("Promise 7: alike, with one that had ALL before", () -> {
            Run r = table(1, 1);
            r.fact(ALL).amounts(7).add(2);
            r.fact(5).amounts(-7).add(1);
            r.roll(0).is(1);
            r.keysAre(new int[] {ALL});
            r.count(0).is(3);
            r.toldIs(0, 0, 7, -7, 7);
            r.key(0, ALL);
            r.find().is(0);
            r.add(1).is(1);
            r.count(0).is(4);
        });
        test("Promise 7: none alike: a roll that was made before changes nothing", () -> {
            Run r = smallTable();
            r.roll(1).is(3 - 1);
            Answer again = r.roll(1);
            again.is(2);
            again.isWithoutTrace();
        });
    }

    private static void promise7Room() {
        test("Promise 7: how many rows there are: one of a full table", () -> {
            Run r = fullTable(1, 1);
            r.roll(0).is(1);
            r.rows().is(1);
            r.count(0).is(1000);
            r.toldIs(0, 0, 999000, 0, 1998);
            r.count(1).isRefused();
        });
        test("Promise 7: how many rows there are: one of a full table of eight parts and measures", () -> {
            Run r = fullTable(8, 8);
            r.roll(0).is(1);
            r.keysAre(new int[] {ALL, 0, 0, 0, 0, 0, 0, 0});
            for (int m = 0; m < 8; m++) {
                r.toldIs(0, m, 999000, 0, 1998);
            }
        });
        test("Promise 7: how many rows there are: 1000 of a full table, none alike", () -> {
            Run r = fullTable(2, 1);
            r.roll(1).is(1000);
            r.rows().is(1000);
            for (int place : new int[] {0, 499, 999}) {
                r.keyAt(place, 0).is(2 * place);
                r.keyAt(place, 1).is(ALL);
                r.toldIs(place, 0, 2 * place, 2 * place, 2 * place);
            }
        });
        test("Promise 7: rows that are alike become one: there is room for others then", () -> {
            Run r = table(2, 1);
            for (int k = 0; k < 10; k++) {
                r.fact(k, -7 * k).spread(100, 1, 1).is(100);
            }
            r.roll(0).is(163);
            long facts = 0;
            for (int place = 0; place < 163; place++) {
                r.keyAt(place, 1).is(place - 63);
                facts += Long.parseLong(r.count(place).got);
            }
            due("the facts of all rows", facts, 1000L);
            r.fact(0, 0).amounts(1).spread(5000, 1, 1).is(837);
            r.rows().is(1000);
            for (int place = 0; place < 837; place++) {
                r.keyAt(place, 0).is(0);
                r.keyAt(place, 1).is(place);
                r.count(place).is(1);
                r.toldIs(place, 0, place + 1, place + 1, place + 1);
            }
            r.keyAt(837, 1).is(-63);
            r.roll(1).is(2);
            r.count(0).is(837);
            r.count(1).is(1000);
        });
        test("Promise 7: Illegal argument", () -> {
            for (int width = 0; width <= 8; width++) {
                Run r = table(width, 1);
                r.add(1);
                for (int i : outside(0, width - 1)) {
                    r.roll(i).isRefused();
                }
            }
        });
    }

    private static void promise8() {
        test("Promise 8: How many rows there are: from none to 1000", () -> {
            Run r = table(1, 1);
            r.rows().is(0);
            for (int k = 0; k < 100; k++) {
                r.spread(10, 0, -1).is(10);
                r.rows().is(10 * k + 10);
                r.key(0, -10 * k - 10);
            }
            r.add(1).is(FULL);
            r.rows().is(1000);
        });
        test("Promise 8: How many rows there are, after facts with old keys, roll and begin", () -> {
            Run r = smallTable();
            r.rows().is(3);
            r.rows().isWithoutTrace();
            r.fact(3, 4).add(1);
            r.rows().is(3);
            r.roll(1);
            r.rows().is(2);
            r.roll(0);
            r.rows().is(1);
            r.begin(2, 2);
            r.rows().is(0);
        });
    }

    private static void promise9() {
        test("Promise 9: The place (from 0) of the row with the key of the fact in the making", () -> {
            Run r = smallTable();
            r.fact(-3, 5).find().is(0);
            r.fact(3, -4).find().is(1);
            r.fact(3, 4).find().is(2);
            r.amounts(1, 2).find().is(2);
            r.find().isWithoutTrace();
        });
        test("Promise 9: The place (from 0), each of a full table, and NONE between them", () -> {
            for (int place = 0; place < 1000; place++) {
                if (place % 7 == 0 || place > 990) {
                    Run r = fullTable(1, 1);
                    r.fact(2 * place).find().is(place);
                    r.fact(2 * place - 1).find().is(NONE);
                }
            }
        });
        test("Promise 9: The place (from 0), each of few rows", () -> {
            for (int rows = 1; rows <= 20; rows++) {
                Run r = table(1, 1);
                r.spread(rows, 0, 2);
                for (int place = 0; place < rows; place++) {
                    r.fact(2 * place).find().is(place);
                    r.fact(2 * place + 1).find().is(NONE);
                }
            }
        });
        test("Promise 9: NONE without one: without rows", () -> {
            new Run().find().is(NONE);
            table(8, 1).find().is(NONE);
        });
        test("Promise 9: NONE without one: less than the first, greater than the last", () -> {
            for (int key : new int[] {MIN, -1, 1999, 2000, MAX}) {
                Run r = fullTable(1, 1);
                r.fact(key).find().is(NONE);
            }
        });
        test("Promise 9: NONE without one: one part differs", () -> {
            for (int i = 0; i < 8; i++) {
                Run r = table(8, 1);
                r.fact(1, 2, 3, 4, 5, 6, 7, 8).add(1);
                r.find().is(0);
                r.key(i, 0);
                r.find().is(NONE);
                r.key(i, 9);
                r.find().is(NONE);
            }
        });
        test("Promise 9: NONE without one: its row was rolled up, or gone with its table", () -> {
            Run r = table(2, 1);
            r.fact(4, 5).add(1);
            r.roll(1);
            r.find().is(NONE);
            r.fact(4, ALL).find().is(0);
            r.begin(2, 1);
            r.fact(4, ALL).find().is(NONE);
        });
        test("Promise 9: The place of the one row without parts", () -> {
            Run r = new Run();
            r.add(1);
            r.find().is(0);
        });
    }

    private static void promise10() {
        test("Promise 10: Part i of the key of the row at a place", () -> {
            int[] first = {1, -2, 3, MIN, MAX, 0, 7, -8};
            int[] second = {1, -2, 3, MIN, MAX, 0, 7, -7};
            Run r = table(8, 1);
            r.fact(second).add(1);
            r.fact(first).add(1);
            r.keysAre(first, second);
            r.keyAt(1, 7).isWithoutTrace();
        });
        test("Promise 10: the row at a place: the first and the last of a full table", () -> {
            Run r = fullTable(2, 1);
            r.keyAt(0, 0).is(0);
            r.keyAt(999, 0).is(1998);
            r.keyAt(999, 1).is(0);
            r.keyAt(1000, 0).isRefused();
            r.keyAt(-1, 0).isRefused();
        });
        test("Promise 10: Illegal argument: there is no such row", () -> {
            Run r = smallTable();
            for (int place : outside(0, 2)) {
                r.keyAt(place, 0).isRefused();
                r.keyAt(place, 1).isRefused();
            }
            table(1, 1).keyAt(0, 0).isRefused();
        });
        test("Promise 10: Illegal argument: there is no part i", () -> {
            for (int width = 0; width <= 8; width++) {
                Run r = table(width, 1);
                r.add(1);
                for (int i : outside(0, width - 1)) {
                    r.keyAt(0, i).isRefused();
                }
            }
        });
        test("Promise 10: Illegal argument: the row was rolled up", () -> {
            Run r = smallTable();
            r.roll(1);
            r.keyAt(1, 0).is(3);
            r.keyAt(2, 0).isRefused();
        });
    }

    private static void promise11() {
        test("Promise 11: How many facts the row at a place has", () -> {
            Run r = table(1, 1);
            r.fact(5).add(3);
            r.fact(-5).add(1);
            r.fact(5).add(100000);
            r.fact(5).spread(2, 0, 0);
            r.count(0).is(1);
            r.count(1).is(100005);
            r.count(1).isWithoutTrace();
        });
        test("Promise 11: How many facts, as many as can come", () -> {
            Run r = new Run();
            for (int k = 0; k < 500; k++) {
                r.add(100000);
            }
            r.count(0).is(50000000);
        });
        test("Promise 11: the row at a place: the first and the last of a full table", () -> {
            Run r = fullTable(1, 1);
            r.fact(0).add(2);
            r.fact(1998).add(3);
            r.count(0).is(3);
            r.count(999).is(4);
            r.count(1000).isRefused();
            r.count(-1).isRefused();
        });
        test("Promise 11: Illegal argument", () -> {
            Run r = smallTable();
            for (int place : outside(0, 2)) {
                r.count(place).isRefused();
            }
            new Run().count(0).isRefused();
            r.roll(1);
            r.count(2).isRefused();
        });
    }

    private static void promise12() {
        test("Promise 12: Of measure m, for the row at a place: 0 the sum, 1 the least, 2 the greatest", () -> {
            Run r = table(1, 8);
            r.fact(1).amounts(-4, -3, -2, -1, 0, 1, 2, 3).add(2);
            r.amounts(-40, -30, -20, -10, 0, 10, 20, 30).add(3);
            r.fact(0).add(1);
            for (int m = 0; m < 8; m++) {
                long small = m - 4;
                r.toldIs(0, m, 10 * small, 10 * small, 10 * small);
                r.toldIs(1, m, 32 * small, Math.min(small, 10 * small), Math.max(small, 10 * small));
                r.told(1, m, 2).isWithoutTrace();
            }
        });
        test("Promise 12: the row at a place: the first and the last of a full table", () -> {
            Run r = fullTable(1, 8);
            r.toldIs(0, 7, 0, 0, 0);
            r.toldIs(999, 7, 1998, 1998, 1998);
            r.toldIs(999, 0, 1998, 1998, 1998);
            r.told(1000, 0, 0).isRefused();
            r.told(-1, 0, 0).isRefused();
        });
        test("Promise 12: Illegal argument: there is no such row", () -> {
            Run r = smallTable();
            for (int place : outside(0, 2)) {
                for (int what = 0; what < 3; what++) {
                    r.told(place, 1, what).isRefused();
                }
            }
            new Run().told(0, 0, 0).isRefused();
            r.roll(1);
            r.told(2, 0, 0).isRefused();
        });
        test("Promise 12: Illegal argument: there is no measure m", () -> {
            for (int measures = 1; measures <= 8; measures++) {
                Run r = table(0, measures);
                r.add(1);
                for (int m : outside(0, measures - 1)) {
                    for (int what = 0; what < 3; what++) {
                        r.told(0, m, what).isRefused();
                    }
                }
            }
        });
        test("Promise 12: Illegal argument: also if what is none of these", () -> {
            Run r = smallTable();
            for (int what : outside(0, 2)) {
                r.told(0, 0, what).isRefused();
                r.told(2, 1, what).isRefused();
            }
        });
    }

    public static void main(String[] args) {
        whatItIs();
        constants();
        termsOfTheTable();
        termsOfARow();
        termsOfTheFact();
        termsOfRefusals();
        promise1();
        promise2();
        promise3();
        promise4();
        promise5();
        promise6Facts();
        promise6Room();
        promise7();
        promise7Room();
        promise8();
        promise9();
        promise10();
        promise11();
        promise12();
        System.out.println(wrong == 0 ? "all promises hold" : wrong + " answers are not as due");
        if (wrong != 0) {
            System.exit(1);
        }
    }
}
