/** Promise 2 and the terms NODES, LEVEL and kinds: each sentence, at its edges too. */
public final class NodeEdgeTest {
    private static final Check check = new Check();
    private static final int[] WITHOUT_NODES = {
        Check.NUMBER, Check.INPUT, Check.DEFINED, Check.PAID, Check.NOTHING
    };

    public static void main(String[] args) {
        check.run(NodeEdgeTest.class);
        check.end();
    }

    private static void made(RulePayroll x, int kind, int a, int b, int c) {
        int before = x.count(0);
        check.due("node(" + kind + ", " + a + ", " + b + ", " + c + ")", before, x.node(kind, a, b, c));
        check.due("count(0) after it", before + 1, x.count(0));
    }

    private static void refused(RulePayroll x, int kind, int a, int b, int c) {
        int before = x.count(0);
        check.due("node(" + kind + ", " + a + ", " + b + ", " + c + ")", Check.REFUSED, x.node(kind, a, b, c));
        check.due("count(0) after it", before, x.count(0));
    }

    /** Nodes 0 .. 9 of the levels 1 .. 10. */
    private static RulePayroll tenLevels() {
        RulePayroll x = new RulePayroll();
        Check.number(x, 0);
        for (int n = 1; n < 10; n++) {
            x.node(Check.NOT, n - 1, 0, 0);
        }
        return x;
    }

    /** How many nodes can be put upon it, one upon the other, before the LEVEL would be 11. */
    private static int levelOf(RulePayroll x, int n) {
        int level = 10;
        int top = x.node(Check.NOT, n, 0, 0);
        while (top >= 0 && level > 0) {
            level--;
            top = x.node(Check.NOT, top, 0, 0);
        }
        check.due("what stops the chain", Check.REFUSED, top);
        return level;
    }

    @Sentence({
        "NODES are numbered 0, 1, .. as they are made, at most 70",
        "Makes a node: its number."
    })
    private static void nodesAreNumberedAsTheyAreMade() {
        RulePayroll x = new RulePayroll();
        for (int n = 0; n < 70; n++) {
            check.due("the node after " + n, n, Check.number(x, 1000 + n));
        }
        check.due("the 71st", Check.FULL, Check.number(x, 1070));
        check.due("the 72nd", Check.FULL, Check.number(x, 1071));
        for (int n = 0; n < 70; n++) {
            check.due("node " + n, 1000 + n, x.value(0, n));
        }
    }

    @Sentence("A refused call changes nothing.")
    private static void refusedCallsUseUpNoNumber() {
        RulePayroll x = new RulePayroll();
        for (int n = 0; n < 5; n++) {
            refused(x, 20, 0, 0, 0);
            refused(x, Check.NOT, n, 0, 0);
            check.due("the node after two refusals", n, Check.number(x, n));
        }
    }

    @Sentence({
        "their operands are earlier nodes.",
        "an operand out of its range or no node"
    })
    private static void operandsAreEarlierNodes() {
        for (int kind = 0; kind < 20; kind++) {
            for (int which = 1; which <= 4; which *= 2) {
                if ((Check.nodeOperands(kind) & which) != 0) {
                    oneOperandIsAnEarlierNode(kind, which);
                }
            }
        }
    }

    private static void oneOperandIsAnEarlierNode(int kind, int which) {
        RulePayroll x = new RulePayroll();
        for (int n = 0; n < 3; n++) {
            Check.number(x, n);
        }
        String what = "kind " + kind + " with operand " + which + " ";
        boolean mayBeMissing = kind == Check.DEFAULT && which == 1;
        for (int bad : Check.outside(2)) {
            if (bad != -1 || !mayBeMissing) {
                check.due(what + bad, Check.REFUSED, Check.nodeWith(x, kind, which, bad, 0));
                check.due("count(0)", 3, x.count(0));
            }
        }
        check.due(what + "70", Check.REFUSED, Check.nodeWith(x, kind, which, 70, 0));
        check.due(what + "the first", 3, Check.nodeWith(x, kind, which, 0, 0));
        check.due(what + "the last", 4, Check.nodeWith(x, kind, which, 3, 0));
        check.due(what + "itself", Check.REFUSED, Check.nodeWith(x, kind, which, 5, 0));
        if (mayBeMissing) {
            check.due(what + "-1", 5, Check.nodeWith(x, kind, which, -1, 0));
        }
    }

    @Sentence("an operand out of its range or no node")
    private static void noNodeIsThereAtFirst() {
        for (int kind = 0; kind < 20; kind++) {
            RulePayroll x = new RulePayroll();
            if (Check.nodeOperands(kind) == 0) {
                made(x, kind, 0, 0, 0);
            } else {
                refused(x, kind, 0, 0, 0);
                refused(x, kind, -1, -1, -1);
                refused(x, kind, 1, 1, 1);
            }
        }
        RulePayroll x = new RulePayroll();
        refused(x, Check.DEFAULT, -1, 0, 0);
        Check.number(x, 0);
        made(x, Check.DEFAULT, -1, 0, 0);
    }

    @Sentence("Its LEVEL is 1 without operands that are nodes")
    private static void levelIsOneWithoutNodes() {
        for (int kind : WITHOUT_NODES) {
            RulePayroll x = tenLevels();
            int n = x.node(kind, kind == Check.PAID ? 1 : 7, 9, 9);
            check.due("level of kind " + kind, 1, levelOf(x, n));
        }
    }

    @Sentence("Its LEVEL is 1 without operands that are nodes")
    private static void levelOfDefinedIsOneWhateverItsDefinition() {
        RulePayroll x = tenLevels();
        check.due("define(0, a node of level 10)", 0, x.define(0, 9));
        int n = x.node(Check.DEFINED, 0, 0, 0);
        check.due("level of DEFINED", 1, levelOf(x, n));
        check.due("the top of twenty levels", 1, x.value(0, x.count(0) - 1) + x.value(0, x.count(0) - 2));
    }

    @Sentence("else one more than the greatest of theirs")
    private static void levelIsOneMoreThanTheGreatest() {
        for (int kind = 0; kind < 20; kind++) {
            for (int which = 1; which <= 4; which *= 2) {
                if ((Check.nodeOperands(kind) & which) == 0) {
                    continue;
                }
                RulePayroll x = tenLevels();
                String what = "level of kind " + kind + ", operand " + which;
                check.due(what + " of 4", 5, levelOf(x, Check.nodeWith(x, kind, which, 3, 0)));
                check.due(what + " of 4, others 2", 5, levelOf(x, Check.nodeWith(x, kind, which, 3, 1)));
                check.due(what + " of 1", 2, levelOf(x, Check.nodeWith(x, kind, which, 0, 0)));
            }
        }
    }

    @Sentence("17 DEFAULT of a (a node or -1), b, c: below.")
    private static void levelOfDefaultWithoutExceptions() {
        RulePayroll x = tenLevels();
        check.due("level of DEFAULT -1, 1, 1", 2, levelOf(x, x.node(Check.DEFAULT, -1, 0, 0)));
        check.due("level of DEFAULT -1, 7, 3", 8, levelOf(x, x.node(Check.DEFAULT, -1, 6, 2)));
        check.due("level of DEFAULT -1, 3, 7", 8, levelOf(x, x.node(Check.DEFAULT, -1, 2, 6)));
        refused(x, Check.DEFAULT, -1, 9, 0);
        refused(x, Check.DEFAULT, -1, 0, 9);
        made(x, Check.DEFAULT, -1, 8, 8);
        refused(x, Check.DEFAULT, -2, 0, 0);
        refused(x, Check.DEFAULT, Check.MIN_INT, 0, 0);
        refused(x, Check.DEFAULT, -1, -1, 0);
        refused(x, Check.DEFAULT, -1, 0, -1);
    }

    @Sentence({
        "at most 10.",
        "or the LEVEL would be 11: REFUSED."
    })
    private static void levelWouldBeEleven() {
        for (int kind = 0; kind < 20; kind++) {
            for (int which = 1; which <= 4; which *= 2) {
                if ((Check.nodeOperands(kind) & which) == 0) {
                    continue;
                }
                RulePayroll x = tenLevels();
                String what = "kind " + kind + " with operand " + which;
                check.due(what + " of level 10", Check.REFUSED, Check.nodeWith(x, kind, which, 9, 0));
                check.due("count(0) after it", 10, x.count(0));
                check.due(what + " of level 9", 10, Check.nodeWith(x, kind, which, 8, 0));
                check.due("a node upon it", Check.REFUSED, x.node(Check.NOT, 10, 0, 0));
            }
        }
    }

    @Sentence("kind out of 0 .. 19")
    private static void kindOutOfRange() {
        RulePayroll x = new RulePayroll();
        Check.number(x, 0);
        for (int bad : Check.outside(19)) {
            refused(x, bad, 0, 0, 0);
        }
        refused(x, 256, 0, 0, 0);
        for (int kind = 0; kind <= 19; kind++) {
            made(x, kind, 0, 0, 0);
        }
    }

    @Sentence({
        "1 INPUT a (0 .. 7): that input of the person.",
        "an operand out of its range"
    })
    private static void inputOperand() {
        RulePayroll x = new RulePayroll();
        for (int bad : Check.outside(7)) {
            refused(x, Check.INPUT, bad, 0, 0);
        }
        for (int i = 0; i < 8; i++) {
            made(x, Check.INPUT, i, 0, 0);
            x.input(5, i, 50 + i);
        }
        for (int i = 0; i < 8; i++) {
            check.due("INPUT " + i, 50 + i, x.value(5, i));
            check.due("INPUT " + i + " of another", 0, x.value(4, i));
        }
    }

    @Sentence({
        "2 DEFINED a (0 .. 7): what definition a is for the person.",
        "an operand out of its range"
    })
    private static void definedOperand() {
        RulePayroll x = new RulePayroll();
        for (int bad : Check.outside(7)) {
            refused(x, Check.DEFINED, bad, 0, 0);
        }
        for (int d = 0; d < 8; d++) {
            made(x, Check.DEFINED, d, 0, 0);
        }
        for (int d = 0; d < 8; d++) {
            x.define(d, Check.number(x, 50 + d));
        }
        for (int d = 0; d < 8; d++) {
            check.due("DEFINED " + d, 50 + d, x.value(0, d));
        }
        x.define(7, Check.inputNode(x, 3));
        for (int p = 0; p < 6; p++) {
            x.input(p, 3, 90 - p);
        }
        for (int p = 0; p < 6; p++) {
            check.due("DEFINED 7 for " + p, 90 - p, x.value(p, 7));
        }
    }

    @Sentence({
        "3 PAID a (0: gross, 1: tax): what was paid to the person so far.",
        "an operand out of its range"
    })
    private static void paidOperand() {
        RulePayroll x = Check.payrollOfInputs();
        for (int bad : Check.outside(1)) {
            refused(x, Check.PAID, bad, 0, 0);
        }
        made(x, Check.PAID, 0, 0, 0);
        made(x, Check.PAID, 1, 0, 0);
        check.due("PAID gross at first", 0, x.value(2, 3));
        check.due("PAID tax at first", 0, x.value(2, 4));
        x.activate(2, true);
        Check.wages(x, 2, 9, 4, 5);
        x.pay();
        check.due("PAID gross", 9, x.value(2, 3));
        check.due("PAID tax", 4, x.value(2, 4));
        check.due("PAID gross of another", 0, x.value(1, 3));
        check.due("PAID tax of another", 0, x.value(3, 4));
        x.pay();
        check.due("PAID gross of two runs", 18, x.value(2, 3));
        check.due("PAID tax of two runs", 8, x.value(2, 4));
    }

    @Sentence({
        "19 SCALE of table a (0, 1) for node b: below.",
        "an operand out of its range"
    })
    private static void tableOperand() {
        RulePayroll x = new RulePayroll();
        Check.number(x, 1000);
        for (int bad : Check.outside(1)) {
            refused(x, Check.SCALE, bad, 0, 0);
        }
        made(x, Check.SCALE, 0, 0, 0);
        made(x, Check.SCALE, 1, 0, 0);
        x.step(0, 1000, 3);
        x.step(1, 1000, 4);
        check.due("SCALE of table 0", 3, x.value(0, 1));
        check.due("SCALE of table 1", 4, x.value(0, 2));
    }

    @Sentence("Kinds with operands a, b, c: 0 NUMBER a.")
    private static void numberIsAnyInt() {
        RulePayroll x = new RulePayroll();
        int[] numbers = {Check.MIN_INT, Check.MIN_INT + 1, -2, -1, 0, 1, Check.MAX_INT - 1, Check.MAX_INT};
        for (int n = 0; n < numbers.length; n++) {
            made(x, Check.NUMBER, numbers[n], 0, 0);
            check.due("NUMBER", numbers[n], x.value(0, n));
        }
    }

    private static RulePayroll seventy() {
        RulePayroll x = tenLevels();
        for (int n = 10; n < 70; n++) {
            Check.number(x, n);
        }
        return x;
    }

    @Sentence("70 nodes: FULL.")
    private static void seventyNodes() {
        RulePayroll x = tenLevels();
        for (int n = 10; n < 69; n++) {
            Check.number(x, n);
        }
        check.due("count(0) before the last", 69, x.count(0));
        check.due("the 70th, of the 68th and the 69th", 69, x.node(Check.ADD, 67, 68, 0));
        check.due("its value", 67 + 68, x.value(0, 69));
        RulePayroll y = seventy();
        for (int kind = 0; kind < 20; kind++) {
            check.due("kind " + kind + " as 71st", Check.FULL, y.node(kind, 0, 0, 0));
            check.due("count(0) after it", 70, y.count(0));
        }
        check.due("the 71st of level 10", Check.FULL, y.node(Check.NOT, 8, 0, 0));
        check.due("the 71st of the 70th", Check.FULL, y.node(Check.NOT, 69, 0, 0));
        check.due("the 70th is as before", 69, y.value(0, 69));
        check.due("none behind it", Check.NONE, y.value(0, 70));
    }

    /** What is refused is refused, whether there is room or not: REFUSED stands first in the promise. */
    @Sentence("kind out of 0 .. 19, an operand out of its range or no node, or the LEVEL would be 11: "
        + "REFUSED. 70 nodes: FULL.")
    private static void refusedWhenFull() {
        RulePayroll x = seventy();
        refused(x, 20, 0, 0, 0);
        refused(x, -1, 0, 0, 0);
        refused(x, Check.INPUT, 8, 0, 0);
        refused(x, Check.PAID, 2, 0, 0);
        refused(x, Check.SCALE, 2, 0, 0);
        refused(x, Check.ADD, 69, 70, 0);
        refused(x, Check.ADD, -1, 69, 0);
        refused(x, Check.NOT, 9, 0, 0);
    }

    @Sentence("Operands that are not named may be any int.")
    private static void operandsThatAreNotNamed() {
        int[] anys = {Check.MIN_INT, -2, -1, 0, 1, 8, 70, Check.MAX_INT};
        for (int kind = 0; kind < 20; kind++) {
            int named = Check.nodeOperands(kind);
            for (int any : anys) {
                RulePayroll x = tenLevels();
                int a = kind == Check.NOTHING ? any : 0;
                int b = (named & 2) != 0 ? 1 : any;
                int c = (named & 4) != 0 ? 1 : any;
                made(x, kind, a, b, c);
                check.due("its level", named == 0 ? 1 : (named & 2) != 0 ? 3 : 2, levelOf(x, 10));
            }
        }
    }
}
