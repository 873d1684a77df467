/** Promise 2: what node makes, refuses and has no room for. */
public final class NodeTest {
    private static final Check check = new Check();

    public static void main(String[] args) {
        numbersRise();
        ranges();
        operandsThatAreNodes();
        operandsThatAreNotNamed();
        levels();
        full();
        check.end();
    }

    private static void numbersRise() {
        RulePayroll x = new RulePayroll();
        for (int n = 0; n < 70; n++) {
            check.due("node " + n, n, Check.number(x, n));
            check.due("count(0)", n + 1, x.count(0));
        }
        for (int n = 0; n < 70; n++) {
            check.due("value of node " + n, n, x.value(0, n));
        }
    }

    private static void ranges() {
        RulePayroll x = new RulePayroll();
        refused(x, -1, 0, 0, 0);
        refused(x, 20, 0, 0, 0);
        refused(x, Integer.MIN_VALUE, 0, 0, 0);
        refused(x, Integer.MAX_VALUE, 0, 0, 0);
        int[][] bounds = {{Check.INPUT, 8}, {Check.DEFINED, 8}, {Check.PAID, 2}};
        for (int[] bound : bounds) {
            refused(x, bound[0], -1, 0, 0);
            refused(x, bound[0], bound[1], 0, 0);
            refused(x, bound[0], Integer.MAX_VALUE, 0, 0);
            refused(x, bound[0], Integer.MIN_VALUE, 0, 0);
            made(x, bound[0], 0, 0, 0);
            made(x, bound[0], bound[1] - 1, 0, 0);
        }
        refused(x, Check.SCALE, -1, 0, 0);
        refused(x, Check.SCALE, 2, 0, 0);
        made(x, Check.SCALE, 0, 0, 0);
        made(x, Check.SCALE, 1, 0, 0);
        made(x, Check.NUMBER, Integer.MIN_VALUE, 0, 0);
        made(x, Check.NUMBER, Integer.MAX_VALUE, 0, 0);
    }

    private static void operandsThatAreNodes() {
        for (int kind = 4; kind < 20; kind++) {
            int operands = nodeOperands(kind);
            for (int which = 1; which <= 4; which *= 2) {
                if ((operands & which) == 0) {
                    continue;
                }
                RulePayroll x = new RulePayroll();
                Check.number(x, 1);
                Check.number(x, 1);
                int[] bads = {-2, 2, 70, Integer.MAX_VALUE, Integer.MIN_VALUE};
                for (int bad : bads) {
                    refused(x, kind, which == 1 ? bad : 1, which == 2 ? bad : 1, which == 4 ? bad : 1);
                }
                boolean mayBeNone = kind == Check.DEFAULT && which == 1;
                int a = which == 1 ? -1 : 1;
                int b = which == 2 ? -1 : 1;
                int c = which == 4 ? -1 : 1;
                check.due("kind " + kind + " with -1", mayBeNone ? 2 : Check.REFUSED, x.node(kind, a, b, c));
            }
        }
    }

    private static void operandsThatAreNotNamed() {
        int[] anys = {-1, 99, Integer.MIN_VALUE, Integer.MAX_VALUE};
        for (int any : anys) {
            for (int kind = 0; kind < 20; kind++) {
                RulePayroll x = new RulePayroll();
                Check.number(x, 1);
                int operands = nodeOperands(kind);
                boolean aNamed = kind != Check.NOTHING;
                int a = aNamed ? 0 : any;
                int b = (operands & 2) != 0 ? 0 : any;
                int c = (operands & 4) != 0 ? 0 : any;
                check.due("kind " + kind + " with " + any, 1, x.node(kind, a, b, c));
                check.due("its level is as low", 2, x.node(Check.NOT, 1, any, any));
            }
        }
    }

    private static int nodeOperands(int kind) {
        switch (kind) {
            case Check.SHARE: case Check.IF: case Check.DEFAULT: return 7;
            case Check.NOT: return 1;
            case Check.SCALE: return 2;
            case Check.NUMBER: case Check.INPUT: case Check.DEFINED: case Check.PAID: case Check.NOTHING: return 0;
            default: return 3;
        }
    }

    /** Each operand that is a node, and none that is not, raises the level. */
    private static void levels() {
        for (int kind = 4; kind < 20; kind++) {
            for (int which = 1; which <= 4; which *= 2) {
                RulePayroll x = new RulePayroll();
                Check.number(x, 1);
                for (int level = 2; level <= 10; level++) {
                    check.due("level " + level, level - 1, x.node(Check.NOT, level - 2, 0, 0));
                }
                refused(x, Check.NOT, 9, 0, 0);
                int high = 9;
                int a = which == 1 ? high : 0;
                int b = which == 2 ? high : 0;
                int c = which == 4 ? high : 0;
                if ((nodeOperands(kind) & which) != 0) {
                    refused(x, kind, a, b, c);
                } else if (kind != Check.SCALE || which != 1) {
                    made(x, kind, a, b, c);
                }
                made(x, Check.NOT, 8, 0, 0);
            }
        }
        RulePayroll x = new RulePayroll();
        Check.number(x, 1);
        for (int level = 2; level <= 10; level++) {
            made(x, Check.DEFAULT, -1, level - 2, 0);
        }
        refused(x, Check.DEFAULT, -1, 9, 0);
        x.define(0, 9);
        int defined = x.node(Check.DEFINED, 0, 0, 0);
        made(x, Check.NOT, defined, 0, 0);
    }

    private static void full() {
        RulePayroll x = new RulePayroll();
        Check.number(x, 1);
        for (int n = 1; n < 10; n++) {
            x.node(Check.NOT, n - 1, 0, 0);
        }
        for (int n = 10; n < 70; n++) {
            check.due("node " + n, n, Check.nothing(x));
        }
        check.due("the 71st", Check.FULL, Check.nothing(x));
        check.due("the 71st of operands", Check.FULL, x.node(Check.ADD, 68, 69, 0));
        check.due("a wrong kind when full", Check.REFUSED, x.node(20, 0, 0, 0));
        check.due("a wrong operand when full", Check.REFUSED, x.node(Check.ADD, 69, 70, 0));
        check.due("a level of 11 when full", Check.REFUSED, x.node(Check.NOT, 9, 0, 0));
        check.due("count(0) when full", 70, x.count(0));
        check.due("value of the last", Check.EMPTY, x.value(0, 69));
        check.due("value behind the last", Check.NONE, x.value(0, 70));
    }

    private static void refused(RulePayroll x, int kind, int a, int b, int c) {
        int before = x.count(0);
        check.due("node(" + kind + ", " + a + ", " + b + ", " + c + ")", Check.REFUSED, x.node(kind, a, b, c));
        check.due("count(0) after a refusal", before, x.count(0));
    }

    private static void made(RulePayroll x, int kind, int a, int b, int c) {
        int before = x.count(0);
        check.due("node(" + kind + ", " + a + ", " + b + ", " + c + ")", before, x.node(kind, a, b, c));
    }
}
