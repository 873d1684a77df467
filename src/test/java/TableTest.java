/** Promises 5 and 6, step and clear, and the SCALE of a table. */
public final class TableTest {
    private static final Check check = new Check();

    public static void main(String[] args) {
        steps();
        clearing();
        scale();
        rounding();
        largest();
        check.end();
    }

    private static void steps() {
        for (int t = 0; t < 2; t++) {
            RulePayroll x = new RulePayroll();
            check.due("limit 0", Check.REFUSED, x.step(t, 0, 5));
            check.due("limit -1", Check.REFUSED, x.step(t, -1, 5));
            check.due("rate -1", Check.REFUSED, x.step(t, 1, -1));
            check.due("rate 1001", Check.REFUSED, x.step(t, 1, 1001));
            check.due("count", 0, x.count(5 + t));
            check.due("limit 1, rate 0", 1, x.step(t, 1, 0));
            check.due("the same limit", Check.REFUSED, x.step(t, 1, 5));
            check.due("limit 2, rate 1000", 2, x.step(t, 2, 1000));
            check.due("a lower limit", Check.REFUSED, x.step(t, 1, 5));
            check.due("a third", 3, x.step(t, 10, 1000));
            check.due("a fourth", 4, x.step(t, 11, 1000));
            check.due("a fifth", 5, x.step(t, 12, 1000));
            check.due("a sixth", Check.FULL, x.step(t, Integer.MAX_VALUE, 1000));
            check.due("a sixth that is not above", Check.REFUSED, x.step(t, 12, 1000));
            check.due("a sixth of a wrong rate", Check.REFUSED, x.step(t, 13, 1001));
            check.due("count", 5, x.count(5 + t));
            check.due("count of the other table", 0, x.count(6 - t));
        }
        RulePayroll x = new RulePayroll();
        int[] bads = {-1, 2, Integer.MAX_VALUE, Integer.MIN_VALUE};
        for (int bad : bads) {
            check.due("step of table " + bad, Check.REFUSED, x.step(bad, 1, 1));
            check.due("clear of table " + bad, Check.REFUSED, x.clear(bad));
        }
        check.due("the greatest limit", 1, x.step(0, Integer.MAX_VALUE, 1));
        check.due("none above it", Check.REFUSED, x.step(0, Integer.MAX_VALUE, 1));
        check.due("the least limit", Check.REFUSED, x.step(1, Integer.MIN_VALUE, 1));
    }

    private static void clearing() {
        RulePayroll x = new RulePayroll();
        int amount = Check.number(x, 100);
        int scale = x.node(Check.SCALE, 0, amount, 0);
        x.step(0, 50, 1000);
        x.step(0, 80, 1000);
        x.step(1, 7, 7);
        check.due("before", 80, x.value(0, scale));
        check.due("clear", 2, x.clear(0));
        check.due("after", 0, x.value(0, scale));
        check.due("clear of none", 0, x.clear(0));
        check.due("the other keeps its own", 1, x.count(6));
        check.due("a lower limit is free again", 1, x.step(0, 3, 1000));
        check.due("anew", 3, x.value(0, scale));
    }

    private static void scale() {
        RulePayroll x = new RulePayroll();
        int amount = Check.inputNode(x, 0);
        int first = x.node(Check.SCALE, 0, amount, 0);
        int second = x.node(Check.SCALE, 1, amount, 0);
        x.step(0, 1000, 100);
        x.step(0, 3000, 0);
        x.step(0, 4000, 500);
        x.step(1, 10, 1000);
        int[][] amountsAndDue = {
            {Integer.MIN_VALUE, 0, 0}, {-1000, 0, 0}, {-1, 0, 0}, {0, 0, 0}, {1, 0, 1}, {4, 0, 4},
            {5, 1, 5}, {9, 1, 9}, {10, 1, 10}, {11, 1, 10}, {14, 1, 10}, {15, 2, 10}, {1000, 100, 10},
            {1001, 100, 10}, {3000, 100, 10}, {3001, 101, 10}, {3002, 101, 10}, {4000, 600, 10},
            {4001, 600, 10}, {Integer.MAX_VALUE, 600, 10}
        };
        for (int[] row : amountsAndDue) {
            x.input(3, 0, row[0]);
            check.due("table 0 of " + row[0], row[1], x.value(3, first));
            check.due("table 1 of " + row[0], row[2], x.value(3, second));
        }
        int empty = x.node(Check.SCALE, 0, Check.nothing(x), 0);
        int fault = x.node(Check.SCALE, 0, Check.zeroFault(x), 0);
        check.due("of EMPTY", Check.MISSING, x.value(3, empty));
        check.due("of a FAULT", Check.ZERO, x.value(3, fault));
    }

    /** The sum is rounded, not its parts. */
    private static void rounding() {
        RulePayroll x = new RulePayroll();
        int scale = x.node(Check.SCALE, 1, Check.number(x, 3), 0);
        x.step(1, 1, 250);
        x.step(1, 2, 125);
        check.due("0.375", 0, x.value(0, scale));
        x.step(1, 3, 124);
        check.due("0.499", 0, x.value(0, scale));
        x.clear(1);
        x.step(1, 1, 250);
        x.step(1, 2, 125);
        x.step(1, 3, 125);
        check.due("0.500", 1, x.value(0, scale));
    }

    private static void largest() {
        RulePayroll x = new RulePayroll();
        int scale = x.node(Check.SCALE, 0, Check.number(x, Integer.MAX_VALUE), 0);
        x.step(0, Integer.MAX_VALUE - 1, 1000);
        check.due("all but 1", Integer.MAX_VALUE - 1, x.value(0, scale));
        x.step(0, Integer.MAX_VALUE, 1000);
        check.due("all", Integer.MAX_VALUE, x.value(0, scale));
    }
}
