import java.util.ArrayList;
import java.util.Arrays;
import java.util.List;
import java.util.Map;
import java.util.TreeMap;

// Long runs of mixed calls, right and wrong, each answer compared with that of a plain model.
public final class GroupRowsAgainstModel {
    private static final int RUNS = 400;
    private static final int CALLS = 512;
    private static final int ROOM = 1000;
    private static final int[] STRANGE = {Integer.MIN_VALUE, -1, 0, 1, 7, 8, 9, 999, 1000, 1001,
        5000, 5001, 100000, 100001, Integer.MAX_VALUE};
    private static final String REFUSED = "IllegalArgumentException";

    // Kinds of calls: those before ROWS change the object, the others read it.
    private static final int ROWS = 6;
    private static final int KEY_AT = 8;
    private static final int COUNT = 9;
    private static final int TOLD = 10;

    /** The same numbers for the same run, on every machine. */
    private static final class Numbers {
        private long state;

        private Numbers(long seed) {
            state = seed;
        }

        private long next() {
            state += 0x9E3779B97F4A7C15L;
            long z = state;
            z = (z ^ (z >>> 30)) * 0xBF58476D1CE4E5B9L;
            z = (z ^ (z >>> 27)) * 0x94D049BB133111EBL;
            return z ^ (z >>> 31);
        }

        private int below(int bound) {
            return (int) Math.floorMod(next(), (long) bound);
        }
    }

    /** Keeps every amount with how often it came, and works each answer out from them. */
    private static final class Model {
        private final TreeMap<int[], List<long[]>> rows =
            new TreeMap<>(Arrays::compare);
        private int width = 0;
        private int measures = 1;
        private int[] key = new int[0];
        private long[] amounts = new long[1];

        private String call(int kind, int a, int b, int c, long v) {
            switch (kind) {
                case 0: return begin(a, b);
                case 1: return part(a) ? changeKey(a, b) : REFUSED;
                case 2: return measure(a) ? changeAmount(a, v) : REFUSED;
                case 3: return within(a, 1, 100000) ? text(come(a) ? rows.size() : -2) : REFUSED;
                case 4: return part(b) && within(a, 1, 5000) ? spread(a, b, c) : REFUSED;
                case 5: return part(a) ? roll(a) : REFUSED;
                case 6: return text(rows.size());
                case 7: return text(rows.containsKey(key) ? rows.headMap(key).size() : -1);
                case 8: return place(a) && part(b) ? text(at(a).getKey()[b]) : REFUSED;
                case 9: return place(a) ? text(facts(at(a).getValue())) : REFUSED;
                default: return place(a) && measure(b) && within(c, 0, 2)
                    ? text(told(at(a).getValue(), b, c)) : REFUSED;
            }
        }

        private String text(long answer) {
            return Long.toString(answer);
        }

        private boolean within(int n, int least, int greatest) {
            return n >= least && n <= greatest;
        }

        private boolean part(int i) {
            return within(i, 0, width - 1);
        }

        private boolean measure(int m) {
            return within(m, 0, measures - 1);
        }

        private boolean place(int p) {
            return within(p, 0, rows.size() - 1);
        }

        private String begin(int w, int m) {
            if (!within(w, 0, 8) || !within(m, 1, 8)) {
                return REFUSED;
            }
            width = w;
            measures = m;
            key = new int[w];
            amounts = new long[m];
            rows.clear();
            return "";
        }

        private String changeKey(int i, int v) {
            int old = key[i];
            key[i] = v;
            return text(old);
        }

        private String changeAmount(int m, long v) {
            long old = amounts[m];
            amounts[m] = v;
            return text(old);
        }

        private boolean come(int n) {
            if (!rows.containsKey(key) && rows.size() == ROOM) {
                return false;
            }
            long[] fact = Arrays.copyOf(amounts, measures + 1);
            fact[measures] = n;
            rows.computeIfAbsent(key.clone(), k -> new ArrayList<>()).add(fact);
            return true;
        }

        private String spread(int n, int i, int step) {
            for (int came = 0; came < n; came++) {
                if (!come(1)) {
                    return text(came);
                }
                if (came < n - 1) {
                    key[i] += step;
                    for (int m = 0; m < measures; m++) {
                        amounts[m] += step;
                    }
                }
            }
            return text(n);
        }

        private String roll(int i) {
            Map<int[], List<long[]>> old = new TreeMap<>(rows);
            rows.clear();
            for (Map.Entry<int[], List<long[]>> row : old.entrySet()) {
                int[] rolled = row.getKey().clone();
                rolled[i] = Integer.MAX_VALUE;
                rows.computeIfAbsent(rolled, k -> new ArrayList<>()).addAll(row.getValue());
            }
            return text(rows.size());
        }

        private Map.Entry<int[], List<long[]>> at(int p) {
            return new ArrayList<>(rows.entrySet()).get(p);
        }

        private long facts(List<long[]> facts) {
            long sum = 0;
            for (long[] fact : facts) {
                sum += fact[measures];
            }
            return sum;
        }

        private long told(List<long[]> facts, int m, int what) {
            long answer = what == 0 ? 0 : facts.get(0)[m];
            for (long[] fact : facts) {
                if (what == 0) {
                    answer += fact[m] * fact[measures];
                } else if (what == 1 ? fact[m] < answer : fact[m] > answer) {
                    answer = fact[m];
                }
            }
            return answer;
        }
    }

    private static String call(GroupRows x, int kind, int a, int b, int c, long v) {
        try {
            switch (kind) {
                case 0: x.begin(a, b); return "";
                case 1: return Long.toString(x.key(a, b));
                case 2: return Long.toString(x.amount(a, v));
                case 3: return Long.toString(x.add(a));
                case 4: return Long.toString(x.spread(a, b, c));
                case 5: return Long.toString(x.roll(a));
                case 6: return Long.toString(x.rows());
                case 7: return Long.toString(x.find());
                case 8: return Long.toString(x.keyAt(a, b));
                case 9: return Long.toString(x.count(a));
                default: return Long.toString(x.told(a, b, c));
            }
        } catch (RuntimeException e) {
            return e.getClass().getSimpleName();
        }
    }

    private static final String[] NAMES = {"begin", "key", "amount", "add", "spread", "roll", "rows",
        "find", "keyAt", "count", "told"};

    // Out of 100: how often each kind of call is made; begin and roll undo much, so they are rare.
    private static final int[] OFTEN = {1, 22, 12, 18, 6, 1, 3, 9, 9, 7, 12};

    private static int kind(Numbers numbers) {
        int left = numbers.below(100);
        for (int kind = 0; kind < OFTEN.length; kind++) {
            left -= OFTEN[kind];
            if (left < 0) {
                return kind;
            }
        }
        return OFTEN.length - 1;
    }

    private static int strange(Numbers numbers) {
        return STRANGE[numbers.below(STRANGE.length)];
    }

    private static int upTo(Numbers numbers, int bound) {
        return numbers.below(20) == 0 ? strange(numbers) : numbers.below(Math.max(1, bound));
    }

    private static int value(Numbers numbers, int range) {
        return numbers.below(30) == 0 ? strange(numbers) : numbers.below(2 * range + 1) - range;
    }

    private static boolean oneRun(int run) {
        Numbers numbers = new Numbers(run);
        GroupRows x = new GroupRows();
        Model model = new Model();
        List<long[]> changes = new ArrayList<>();
        int range = 1 + numbers.below(run % 2 == 0 ? 3 : 60);
        int most = run % 3 == 0 ? 400 : 12;
        for (int n = 0; n < CALLS; n++) {
            int kind = n == 0 && run % 10 != 0 ? 0 : kind(numbers);
            int a;
            int b;
            int c = value(numbers, 3);
            long v = numbers.below(8) == 0 ? numbers.next() : value(numbers, 100);
            switch (kind) {
                case 0: a = upTo(numbers, 9); b = 1 + upTo(numbers, 8); break;
                case 1: a = upTo(numbers, model.width); b = value(numbers, range); break;
                case 3: a = 1 + upTo(numbers, 5); b = 0; break;
                case 4: a = 1 + upTo(numbers, most); b = upTo(numbers, model.width); break;
                case 5: a = upTo(numbers, model.width); b = 0; break;
                case 2: a = upTo(numbers, model.measures); b = 0; break;
                case 8: a = upTo(numbers, model.rows.size()); b = upTo(numbers, model.width); break;
                default: a = upTo(numbers, model.rows.size()); b = upTo(numbers, model.measures); break;
            }
            if (kind == TOLD) {
                c = upTo(numbers, 3);
            }
            if (kind < ROWS) {
                changes.add(new long[] {kind, a, b, c, v});
            }
            String got = call(x, kind, a, b, c, v);
            String want = model.call(kind, a, b, c, v);
            if (!got.equals(want)) {
                System.out.println("run " + run + ", call " + n + ": " + NAMES[kind] + "(" + a + ", " + b
                    + ", " + c + ", " + v + ") answered " + got + ", due is " + want);
                return false;
            }
        }
        return sameRows(run, new Reader(changes), model);
    }

    /**
     * Reads an object as often as need be: the document promises nothing of one beyond its
     * 512th call, so the changing calls of the run are then made again on a new object.
     */
    private static final class Reader {
        private final List<long[]> changes;
        private GroupRows object;
        private int calls = CALLS;

        private Reader(List<long[]> changes) {
            this.changes = changes;
        }

        private boolean answers(long want, int kind, int a, int b, int c) {
            if (calls >= CALLS) {
                object = new GroupRows();
                for (long[] k : changes) {
                    call(object, (int) k[0], (int) k[1], (int) k[2], (int) k[3], k[4]);
                }
                calls = changes.size();
            }
            calls++;
            return call(object, kind, a, b, c, 0).equals(Long.toString(want));
        }
    }

    private static boolean sameRows(int run, Reader x, Model model) {
        boolean same = x.answers(model.rows.size(), ROWS, 0, 0, 0);
        int p = 0;
        for (Map.Entry<int[], List<long[]>> row : model.rows.entrySet()) {
            same = same && sameRow(x, p, model, row.getKey(), row.getValue());
            p++;
        }
        if (!same) {
            System.out.println("run " + run + ": the rows at its end are not the model's");
        }
        return same;
    }

    private static boolean sameRow(Reader x, int p, Model model, int[] key, List<long[]> facts) {
        boolean same = x.answers(model.facts(facts), COUNT, p, 0, 0);
        for (int i = 0; i < model.width; i++) {
            same &= x.answers(key[i], KEY_AT, p, i, 0);
        }
        for (int m = 0; m < model.measures; m++) {
            for (int what = 0; what < 3; what++) {
                same &= x.answers(model.told(facts, m, what), TOLD, p, m, what);
            }
        }
        return same;
    }

    public static void main(String[] args) {
        int wrong = 0;
        for (int run = 0; run < RUNS; run++) {
            if (!oneRun(run)) {
                wrong++;
            }
        }
        System.out.println(wrong == 0 ? "all runs agree with the model" : wrong + " runs do not agree");
        if (wrong != 0) {
            System.exit(1);
        }
    }
}
