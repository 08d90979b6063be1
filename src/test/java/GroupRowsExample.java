// The example of README.md, each call with the answer that is written beside it there.
public final class GroupRowsExample {
    private static int wrong = 0;

    private static void due(String call, long got, long want) {
        if (got != want) {
            wrong++;
            System.out.println(call + " answered " + got + ", due is " + want);
        }
    }

    public static void main(String[] args) {
        GroupRows sales = new GroupRows();
        sales.begin(2, 1);
        due("key(0, 2026)", sales.key(0, 2026), 0);
        due("key(1, 7)", sales.key(1, 7), 0);
        due("amount(0, 250)", sales.amount(0, 250L), 0);
        due("add(3)", sales.add(3), 1);
        due("key(1, 8)", sales.key(1, 8), 7);
        due("add(1)", sales.add(1), 2);
        due("spread(3, 1, 10)", sales.spread(3, 1, 10), 3);
        due("rows()", sales.rows(), 4);

        due("key(1, 8)", sales.key(1, 8), 28);
        due("find()", sales.find(), 1);
        due("keyAt(1, 1)", sales.keyAt(1, 1), 8);
        due("count(0)", sales.count(0), 3);
        due("told(0, 0, 0)", sales.told(0, 0, 0), 750);

        due("roll(1)", sales.roll(1), 1);
        due("keyAt(0, 1)", sales.keyAt(0, 1), GroupRows.ALL);
        due("count(0)", sales.count(0), 7);
        due("told(0, 0, 2)", sales.told(0, 0, 2), 270);
        due("find()", sales.find(), GroupRows.NONE);
        System.out.println(wrong == 0 ? "the example is right" : wrong + " answers are not as due");
        if (wrong != 0) {
            System.exit(1);
        }
    }
}
