/** Promise 9: the VALUE of every kind of node. */
public final class ValueTest {
    private static final Check check = new Check();
    private static final int MIN_INT = Integer.MIN_VALUE;
    private static final int MAX_INT = Integer.MAX_VALUE;

    private static final int EMPTY_NODE = 0;
    private static final int ZERO_NODE = 1;
    private static final int CONFLICT_NODE = 2;
    private static final int INT_NODE = 3;
    private static final int FALSE_NODE = 4;

    public static void main(String[] args) {
        ofTwo();
        share();
        truth();
        operandsThatAreNoInts();
        conditions();
        also();
        defaults();
        paidNodes();
        noSuch();
        sharedOperands();
        check.end();
    }

    private static long two(int kind, int a, int b) {
        RulePayroll x = new RulePayroll();
        return x.value(0, x.node(kind, Check.number(x, a), Check.number(x, b), 0));
    }

    private static long three(int kind, int a, int b, int c) {
        RulePayroll x = new RulePayroll();
        int na = Check.number(x, a);
        int nb = Check.number(x, b);
        return x.value(0, x.node(kind, na, nb, Check.number(x, c)));
    }

    private static void ofTwo() {
        check.due("2 + 3", 5, two(Check.ADD, 2, 3));
        check.due("max + 1", Check.RANGE, two(Check.ADD, MAX_INT, 1));
        check.due("max + 0", MAX_INT, two(Check.ADD, MAX_INT, 0));
        check.due("min + -1", Check.RANGE, two(Check.ADD, MIN_INT, -1));
        check.due("2 - 3", -1, two(Check.SUB, 2, 3));
        check.due("min - 1", Check.RANGE, two(Check.SUB, MIN_INT, 1));
        check.due("0 - min", Check.RANGE, two(Check.SUB, 0, MIN_INT));
        check.due("-1 - min", MAX_INT, two(Check.SUB, -1, MIN_INT));
        check.due("2 * -3", -6, two(Check.MUL, 2, -3));
        check.due("2^16 * 2^15", Check.RANGE, two(Check.MUL, 65536, 32768));
        check.due("-2^16 * 2^15", MIN_INT, two(Check.MUL, -65536, 32768));
        check.due("min * min", Check.RANGE, two(Check.MUL, MIN_INT, MIN_INT));
        check.due("min * -1", Check.RANGE, two(Check.MUL, MIN_INT, -1));
        check.due("2 < 3", 1, two(Check.LESS, 2, 3));
        check.due("3 < 3", 0, two(Check.LESS, 3, 3));
        check.due("3 < 2", 0, two(Check.LESS, 3, 2));
        check.due("min < max", 1, two(Check.LESS, MIN_INT, MAX_INT));
        check.due("3 = 3", 1, two(Check.SAME, 3, 3));
        check.due("3 = -3", 0, two(Check.SAME, 3, -3));
        check.due("min(-2, 3)", -2, two(Check.MIN, -2, 3));
        check.due("min(3, -2)", -2, two(Check.MIN, 3, -2));
        check.due("max(-2, 3)", 3, two(Check.MAX, -2, 3));
        check.due("max(3, -2)", 3, two(Check.MAX, 3, -2));
    }

    private static void share() {
        check.due("7 / 2", 4, three(Check.SHARE, 7, 1, 2));
        check.due("-7 / 2", -4, three(Check.SHARE, -7, 1, 2));
        check.due("7 / -2", -4, three(Check.SHARE, 7, 1, -2));
        check.due("-7 / -2", 4, three(Check.SHARE, -7, 1, -2));
        check.due("1 / 2", 1, three(Check.SHARE, 1, 1, 2));
        check.due("-1 / 2", -1, three(Check.SHARE, -1, 1, 2));
        check.due("1 / 3", 0, three(Check.SHARE, 1, 1, 3));
        check.due("2 / 3", 1, three(Check.SHARE, 2, 1, 3));
        check.due("-1 / 3", 0, three(Check.SHARE, -1, 1, 3));
        check.due("-2 / 3", -1, three(Check.SHARE, 1, -2, 3));
        check.due("4 / 3", 1, three(Check.SHARE, 4, 1, 3));
        check.due("5 / 3", 2, three(Check.SHARE, 5, 1, 3));
        check.due("0 / -3", 0, three(Check.SHARE, 0, 5, -3));
        check.due("max * max / max", MAX_INT, three(Check.SHARE, MAX_INT, MAX_INT, MAX_INT));
        check.due("min * min / min", MIN_INT, three(Check.SHARE, MIN_INT, MIN_INT, MIN_INT));
        check.due("min * max / min", MAX_INT, three(Check.SHARE, MIN_INT, MAX_INT, MIN_INT));
        check.due("min * min / max", Check.RANGE, three(Check.SHARE, MIN_INT, MIN_INT, MAX_INT));
        check.due("max * max", Check.RANGE, three(Check.SHARE, MAX_INT, MAX_INT, 1));
        check.due("min / -1", Check.RANGE, three(Check.SHARE, MIN_INT, 1, -1));
        check.due("1 / min", 0, three(Check.SHARE, 1, 1, MIN_INT));
        check.due("2^30 / min", -1, three(Check.SHARE, 1 << 30, 1, MIN_INT));
        check.due("(2^30 - 1) / min", 0, three(Check.SHARE, (1 << 30) - 1, 1, MIN_INT));
        check.due("(2^32 - 1) / 2 rounds out of range", Check.RANGE, three(Check.SHARE, 65535, 65537, 2));
        check.due("1 / 0", Check.ZERO, three(Check.SHARE, 1, 1, 0));
        check.due("0 / 0", Check.ZERO, three(Check.SHARE, 0, 0, 0));
        check.due("ZERO comes before RANGE", Check.ZERO, three(Check.SHARE, MAX_INT, MAX_INT, 0));
    }

    private static void truth() {
        int[] values = {0, 1, -1, 2, MIN_INT, MAX_INT};
        for (int a : values) {
            check.due("NOT " + a, a == 0 ? 1 : 0, two(Check.NOT, a, 0));
            for (int b : values) {
                check.due(a + " BOTH " + b, a != 0 && b != 0 ? 1 : 0, two(Check.BOTH, a, b));
                check.due(a + " ANY " + b, a != 0 || b != 0 ? 1 : 0, two(Check.ANY, a, b));
            }
            check.due("IF " + a, a != 0 ? 7 : 8, three(Check.IF, a, 7, 8));
        }
    }

    /** Nodes 0 to 4: EMPTY, ZERO, CONFLICT, the int 5, the int 0. */
    private static RulePayroll samples() {
        RulePayroll x = new RulePayroll();
        Check.nothing(x);
        x.node(Check.DEFINED, 0, 0, 0);
        x.node(Check.DEFINED, 1, 0, 0);
        Check.number(x, 5);
        Check.number(x, 0);
        x.define(0, Check.zeroFault(x));
        x.define(1, Check.conflictFault(x));
        return x;
    }

    private static long of(int kind, int a, int b, int c) {
        RulePayroll x = samples();
        return x.value(0, x.node(kind, a, b, c));
    }

    private static long faultOf(int sample) {
        return sample == EMPTY_NODE ? Check.MISSING : sample == ZERO_NODE ? Check.ZERO : Check.CONFLICT;
    }

    private static void operandsThatAreNoInts() {
        for (int bad = 0; bad < 3; bad++) {
            long fault = faultOf(bad);
            for (int kind = Check.ADD; kind <= Check.MAX; kind++) {
                check.due("first of kind " + kind, fault, of(kind, bad, INT_NODE, 0));
                check.due("second of kind " + kind, fault, of(kind, INT_NODE, bad, 0));
                for (int other = 0; other < 3; other++) {
                    check.due("both of kind " + kind, fault, of(kind, bad, other, 0));
                }
            }
            check.due("SHARE a", fault, of(Check.SHARE, bad, INT_NODE, INT_NODE));
            check.due("SHARE b", fault, of(Check.SHARE, INT_NODE, bad, INT_NODE));
            check.due("SHARE c", fault, of(Check.SHARE, INT_NODE, INT_NODE, bad));
            check.due("SHARE a before 0", fault, of(Check.SHARE, bad, INT_NODE, FALSE_NODE));
            check.due("SHARE b before 0", fault, of(Check.SHARE, INT_NODE, bad, FALSE_NODE));
            for (int other = 0; other < 3; other++) {
                check.due("SHARE a before b", fault, of(Check.SHARE, bad, other, INT_NODE));
                check.due("SHARE b before c", fault, of(Check.SHARE, INT_NODE, bad, other));
                check.due("SHARE a before c", fault, of(Check.SHARE, bad, INT_NODE, other));
            }
            check.due("NOT", fault, of(Check.NOT, bad, INT_NODE, INT_NODE));
        }
    }

    private static void conditions() {
        for (int bad = 0; bad < 3; bad++) {
            long fault = faultOf(bad);
            check.due("BOTH a", fault, of(Check.BOTH, bad, INT_NODE, 0));
            check.due("BOTH a, b false", fault, of(Check.BOTH, bad, FALSE_NODE, 0));
            check.due("BOTH b", fault, of(Check.BOTH, INT_NODE, bad, 0));
            check.due("BOTH false", 0, of(Check.BOTH, FALSE_NODE, bad, 0));
            check.due("ANY a", fault, of(Check.ANY, bad, INT_NODE, 0));
            check.due("ANY b", fault, of(Check.ANY, FALSE_NODE, bad, 0));
            check.due("ANY true", 1, of(Check.ANY, INT_NODE, bad, 0));
            check.due("IF a", fault, of(Check.IF, bad, INT_NODE, INT_NODE));
            check.due("IF not taken b", 5, of(Check.IF, FALSE_NODE, bad, INT_NODE));
            check.due("IF not taken c", 5, of(Check.IF, INT_NODE, INT_NODE, bad));
            long asItIs = bad == EMPTY_NODE ? Check.EMPTY : fault;
            check.due("IF taken b", asItIs, of(Check.IF, INT_NODE, bad, INT_NODE));
            check.due("IF taken c", asItIs, of(Check.IF, FALSE_NODE, INT_NODE, bad));
        }
    }

    private static void also() {
        check.due("two ints", Check.CONFLICT, of(Check.ALSO, INT_NODE, FALSE_NODE, 0));
        check.due("two equal ints", Check.CONFLICT, of(Check.ALSO, INT_NODE, INT_NODE, 0));
        check.due("only a", 5, of(Check.ALSO, INT_NODE, EMPTY_NODE, 0));
        check.due("only b", 5, of(Check.ALSO, EMPTY_NODE, INT_NODE, 0));
        check.due("only a, 0", 0, of(Check.ALSO, FALSE_NODE, EMPTY_NODE, 0));
        check.due("none", Check.EMPTY, of(Check.ALSO, EMPTY_NODE, EMPTY_NODE, 0));
        check.due("a FAULT and an int", Check.ZERO, of(Check.ALSO, ZERO_NODE, INT_NODE, 0));
        check.due("an int and a FAULT", Check.ZERO, of(Check.ALSO, INT_NODE, ZERO_NODE, 0));
        check.due("EMPTY and a FAULT", Check.ZERO, of(Check.ALSO, EMPTY_NODE, ZERO_NODE, 0));
        check.due("a FAULT and EMPTY", Check.ZERO, of(Check.ALSO, ZERO_NODE, EMPTY_NODE, 0));
        check.due("ZERO, CONFLICT", Check.ZERO, of(Check.ALSO, ZERO_NODE, CONFLICT_NODE, 0));
        check.due("CONFLICT, ZERO", Check.CONFLICT, of(Check.ALSO, CONFLICT_NODE, ZERO_NODE, 0));
    }

    private static void defaults() {
        check.due("an exception", 5, of(Check.DEFAULT, INT_NODE, INT_NODE, FALSE_NODE));
        check.due("an exception of 0", 0, of(Check.DEFAULT, FALSE_NODE, INT_NODE, INT_NODE));
        check.due("a FAULT as exception", Check.CONFLICT, of(Check.DEFAULT, CONFLICT_NODE, ZERO_NODE, INT_NODE));
        check.due("an exception before a FAULT", 5, of(Check.DEFAULT, INT_NODE, ZERO_NODE, ZERO_NODE));
        int[] none = {EMPTY_NODE, -1};
        for (int a : none) {
            check.due("condition FAULT", Check.ZERO, of(Check.DEFAULT, a, ZERO_NODE, INT_NODE));
            check.due("condition EMPTY", Check.MISSING, of(Check.DEFAULT, a, EMPTY_NODE, INT_NODE));
            check.due("condition false", Check.EMPTY, of(Check.DEFAULT, a, FALSE_NODE, INT_NODE));
            check.due("condition false, FAULT behind", Check.EMPTY, of(Check.DEFAULT, a, FALSE_NODE, ZERO_NODE));
            check.due("condition true", 5, of(Check.DEFAULT, a, INT_NODE, INT_NODE));
            check.due("condition true, 0", 0, of(Check.DEFAULT, a, INT_NODE, FALSE_NODE));
            check.due("condition true, EMPTY", Check.EMPTY, of(Check.DEFAULT, a, INT_NODE, EMPTY_NODE));
            check.due("condition true, FAULT", Check.CONFLICT, of(Check.DEFAULT, a, INT_NODE, CONFLICT_NODE));
        }
    }

    private static void paidNodes() {
        RulePayroll x = Check.payrollOfInputs();
        int gross = x.node(Check.PAID, 0, 0, 0);
        int tax = x.node(Check.PAID, 1, 0, 0);
        x.activate(4, true);
        Check.wages(x, 4, 10, 3, 7);
        x.pay();
        x.pay();
        check.due("PAID gross", 20, x.value(4, gross));
        check.due("PAID tax", 6, x.value(4, tax));
        check.due("PAID gross of another", 0, x.value(3, gross));
        x.back(0);
        check.due("PAID gross after back", 10, x.value(4, gross));
        check.due("PAID tax after back", 3, x.value(4, tax));
    }

    private static void noSuch() {
        RulePayroll x = new RulePayroll();
        Check.number(x, 1);
        int[] badPersons = {-1, 6, MAX_INT, MIN_INT};
        for (int bad : badPersons) {
            check.due("person " + bad, Check.NONE, x.value(bad, 0));
        }
        int[] badNodes = {-1, 1, 70, MAX_INT, MIN_INT};
        for (int bad : badNodes) {
            check.due("node " + bad, Check.NONE, x.value(0, bad));
        }
        check.due("a person that is not active", 1, x.value(5, 0));
    }

    /** 2 to the 72nd ways down: ends only if shared operands are worked out once. */
    private static void sharedOperands() {
        RulePayroll x = new RulePayroll();
        int last = Check.inputNode(x, 0);
        for (int d = 0; d < 8; d++) {
            for (int level = 2; level <= 8; level++) {
                last = x.node(Check.ADD, last, last, 0);
            }
            check.due("define " + d, 0, x.define(d, last));
            last = x.node(Check.DEFINED, d, 0, 0);
        }
        check.due("sum of zeros", 0, x.value(0, last));
        x.input(0, 0, 1);
        check.due("sum of ones", Check.RANGE, x.value(0, last));
    }
}
