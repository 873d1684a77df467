/** Promises 3 and 4: define and undefine. */
public final class DefinitionTest {
    private static final Check check = new Check();

    public static void main(String[] args) {
        ranks();
        ranksOfOperands();
        numbersOutOfRange();
        laterNodesAsDefinitions();
        redefining();
        check.end();
    }

    private static void ranks() {
        for (int a = 0; a < 8; a++) {
            RulePayroll x = new RulePayroll();
            int n = x.node(Check.DEFINED, a, 0, 0);
            int plain = Check.number(x, 3);
            for (int d = 0; d < 8; d++) {
                check.due("define " + d + " by DEFINED " + a, a < d ? 0 : Check.REFUSED, x.define(d, n));
                check.due("bit " + d, a < d ? 1 : 0, x.count(7) >> d & 1);
                check.due("define " + d + " by a number", 0, x.define(d, plain));
            }
            check.due("count(7)", 255, x.count(7));
        }
    }

    /** The rank comes from every operand that is a node, at any depth, and from no other. */
    private static void ranksOfOperands() {
        for (int kind = 4; kind < 20; kind++) {
            for (int which = 1; which <= 4; which *= 2) {
                RulePayroll x = new RulePayroll();
                int low = x.node(Check.DEFINED, 1, 0, 0);
                int high = x.node(Check.DEFINED, 4, 0, 0);
                int a = which == 1 ? high : low;
                int b = which == 2 ? high : low;
                int c = which == 4 ? high : low;
                int inner = x.node(kind, a, b, c);
                int outer = x.node(Check.NOT, x.node(Check.NOT, inner, 0, 0), 0, 0);
                int rank = rankOf(kind, which);
                for (int n = inner; n <= outer; n++) {
                    if (rank > 0) {
                        check.due("kind " + kind + " below its rank", Check.REFUSED, x.define(rank - 1, n));
                    }
                    check.due("kind " + kind + " at its rank", 0, x.define(rank, n));
                }
            }
        }
        RulePayroll x = new RulePayroll();
        int high = x.node(Check.DEFINED, 6, 0, 0);
        int number = Check.number(x, 1);
        int n = x.node(Check.DEFAULT, -1, number, number);
        check.due("a default without exceptions", 0, x.define(0, n));
        check.due("a default of rank 7", 0, x.define(7, x.node(Check.DEFAULT, -1, high, number)));
        check.due("a default of rank 7 as 6", Check.REFUSED, x.define(6, x.node(Check.DEFAULT, -1, number, high)));
    }

    private static int rankOf(int kind, int which) {
        switch (kind) {
            case Check.SHARE: case Check.IF: case Check.DEFAULT: return 5;
            case Check.NOT: return which == 1 ? 5 : 2;
            case Check.NOTHING: return 0;
            case Check.SCALE: return which == 2 ? 5 : 2;
            default: return which == 4 ? 2 : 5;
        }
    }

    private static void numbersOutOfRange() {
        RulePayroll x = new RulePayroll();
        int n = Check.number(x, 1);
        int[] bads = {-1, 8, 32, Integer.MAX_VALUE, Integer.MIN_VALUE};
        for (int bad : bads) {
            check.due("define(" + bad + ", 0)", Check.REFUSED, x.define(bad, n));
            check.due("undefine(" + bad + ")", Check.REFUSED, x.undefine(bad));
            if (bad != n) {
                check.due("define(0, " + bad + ")", Check.REFUSED, x.define(0, bad));
            }
        }
        check.due("define by the node behind the last", Check.REFUSED, x.define(0, 1));
        check.due("count(7)", 0, x.count(7));
    }

    /** A DEFINED node may be made before the nodes that its definition is made of. */
    private static void laterNodesAsDefinitions() {
        RulePayroll x = new RulePayroll();
        int[] defined = new int[8];
        int[] plusOne = new int[8];
        for (int d = 7; d >= 0; d--) {
            defined[d] = x.node(Check.DEFINED, d, 0, 0);
        }
        int one = Check.number(x, 1);
        for (int d = 7; d > 0; d--) {
            plusOne[d] = x.node(Check.ADD, defined[d - 1], one, 0);
            check.due("define " + d, 0, x.define(d, plusOne[d]));
        }
        check.due("on nothing", Check.MISSING, x.value(0, defined[7]));
        check.due("define 0", 0, x.define(0, Check.inputNode(x, 0)));
        x.input(2, 0, 40);
        for (int d = 0; d < 8; d++) {
            check.due("definition " + d, 40 + d, x.value(2, defined[d]));
            check.due("definition " + d + " of another", d, x.value(1, defined[d]));
        }
    }

    private static void redefining() {
        RulePayroll x = new RulePayroll();
        int asked = x.node(Check.DEFINED, 5, 0, 0);
        int self = x.node(Check.DEFINED, 5, 0, 0);
        int five = Check.number(x, 5);
        int six = Check.number(x, 6);
        int empty = Check.nothing(x);
        int fault = Check.zeroFault(x);
        check.due("undefine what is not there", 0, x.undefine(5));
        check.due("define", 0, x.define(5, five));
        check.due("as defined", 5, x.value(0, asked));
        check.due("count(7)", 32, x.count(7));
        check.due("define anew", 0, x.define(5, six));
        check.due("as defined anew", 6, x.value(0, asked));
        check.due("define by itself", Check.REFUSED, x.define(5, self));
        check.due("as before the refusal", 6, x.value(0, asked));
        x.define(5, fault);
        check.due("a FAULT as it is", Check.ZERO, x.value(0, asked));
        x.define(5, empty);
        check.due("EMPTY as it is", Check.EMPTY, x.value(0, asked));
        check.due("an EMPTY definition is there", 32, x.count(7));
        x.define(5, six);
        check.due("undefine", 0, x.undefine(5));
        check.due("not there any more", Check.EMPTY, x.value(0, asked));
        check.due("count(7) after", 0, x.count(7));
    }
}
