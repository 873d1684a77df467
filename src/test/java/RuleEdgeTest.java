/** Promises 3 to 6 and the terms DEFINITIONS, RANK and SCALE: each sentence, at its edges too. */
public final class RuleEdgeTest {
    private static final Check check = new Check();
    private static final int MIN_INT = Check.MIN_INT;
    private static final int MAX_INT = Check.MAX_INT;

    public static void main(String[] args) {
        check.run(RuleEdgeTest.class);
        check.end();
    }

    private static void definedTo(RulePayroll x, int d, int node, long want) {
        int before = x.count(7);
        check.due("define(" + d + ", " + node + ")", want, x.define(d, node));
        check.due("count(7) after it", want == 0 ? before | 1 << d : before, x.count(7));
    }

    @Sentence("DEFINITIONS 0 .. 7 are nodes, none at first.")
    private static void noDefinitionAtFirst() {
        RulePayroll x = new RulePayroll();
        check.due("count(7)", 0, x.count(7));
        for (int d = 0; d < 8; d++) {
            check.due("DEFINED " + d, Check.EMPTY, x.value(0, x.node(Check.DEFINED, d, 0, 0)));
        }
    }

    @Sentence("Definition d 0 .. 7 becomes the node: 0.")
    private static void definitionOutOfRange() {
        RulePayroll x = new RulePayroll();
        int n = Check.number(x, 1);
        for (int bad : Check.outside(7)) {
            definedTo(x, bad, n, Check.REFUSED);
        }
        definedTo(x, 32, n, Check.REFUSED);
        for (int d = 0; d < 8; d++) {
            definedTo(x, d, n, 0);
        }
        check.due("count(7)", 255, x.count(7));
    }

    @Sentence("No such node")
    private static void definedByNoNode() {
        RulePayroll x = new RulePayroll();
        definedTo(x, 7, 0, Check.REFUSED);
        Check.number(x, 1);
        Check.number(x, 2);
        for (int bad : Check.outside(1)) {
            definedTo(x, 0, bad, Check.REFUSED);
            definedTo(x, 7, bad, Check.REFUSED);
        }
        definedTo(x, 7, 70, Check.REFUSED);
        definedTo(x, 0, 0, 0);
        definedTo(x, 7, 1, 0);
        definedTo(x, 7, 2, Check.REFUSED);
        int seven = x.node(Check.DEFINED, 7, 0, 0);
        check.due("definition 7 after a refusal", 2, x.value(0, seven));
    }

    @Sentence("0 without one.")
    private static void rankIsZeroWithoutDefined() {
        RulePayroll x = new RulePayroll();
        for (int kind = 0; kind < 20; kind++) {
            if (kind != Check.DEFINED) {
                definedTo(x, 0, x.node(kind, 0, 0, 0), 0);
            }
        }
    }

    @Sentence({
        "A node is OF RANK k if k is 1 more than the greatest a of all DEFINED nodes in it",
        "or its RANK is above d: REFUSED."
    })
    private static void rankIsOneMoreThanTheGreatest() {
        for (int a = 0; a < 8; a++) {
            RulePayroll x = new RulePayroll();
            int n = x.node(Check.DEFINED, a, 0, 0);
            for (int d = 0; d < 8; d++) {
                definedTo(x, d, n, d > a ? 0 : Check.REFUSED);
            }
        }
    }

    @Sentence("all DEFINED nodes in it (itself and its operands at any depth)")
    private static void rankComesFromEveryOperandNode() {
        for (int kind = 0; kind < 20; kind++) {
            for (int which = 1; which <= 4; which *= 2) {
                if ((Check.nodeOperands(kind) & which) == 0) {
                    continue;
                }
                RulePayroll x = new RulePayroll();
                int low = x.node(Check.DEFINED, 0, 0, 0);
                int high = x.node(Check.DEFINED, 3, 0, 0);
                int n = Check.nodeWith(x, kind, which, high, low);
                definedTo(x, 3, n, Check.REFUSED);
                definedTo(x, 4, n, 0);
                int m = Check.nodeWith(x, kind, which, low, low);
                definedTo(x, 0, m, Check.REFUSED);
                definedTo(x, 1, m, 0);
            }
        }
    }

    @Sentence("(itself and its operands at any depth)")
    private static void rankComesFromAnyDepth() {
        RulePayroll x = new RulePayroll();
        int top = x.node(Check.DEFINED, 5, 0, 0);
        for (int level = 2; level <= 10; level++) {
            top = x.node(Check.NOT, top, 0, 0);
            definedTo(x, 5, top, Check.REFUSED);
            definedTo(x, 6, top, 0);
        }
        int low = x.node(Check.DEFINED, 2, 0, 0);
        int number = Check.number(x, 0);
        int inner = x.node(Check.IF, number, number, low);
        int outer = x.node(Check.BOTH, number, inner, 0);
        definedTo(x, 2, outer, Check.REFUSED);
        definedTo(x, 3, outer, 0);
    }

    @Sentence("all DEFINED nodes in it (itself and its operands at any depth)")
    private static void rankDoesNotComeFromOtherOperands() {
        RulePayroll x = new RulePayroll();
        int seven = x.node(Check.DEFINED, 7, 0, 0);
        int eight = x.node(Check.DEFINED, 7, 0, 0);
        int number = Check.number(x, 1);
        definedTo(x, 0, x.node(Check.SCALE, seven, number, seven), 0);
        definedTo(x, 0, x.node(Check.SCALE, eight, number, eight), 0);
        definedTo(x, 0, x.node(Check.DEFAULT, -1, number, number), 0);
        definedTo(x, 0, x.node(Check.NOT, number, seven, seven), 0);
        definedTo(x, 0, x.node(Check.ADD, number, number, seven), 0);
        definedTo(x, 0, x.node(Check.ALSO, number, number, eight), 0);
        definedTo(x, 0, x.node(Check.NUMBER, seven, seven, seven), 0);
        definedTo(x, 0, x.node(Check.INPUT, seven, seven, seven), 0);
        definedTo(x, 0, x.node(Check.PAID, eight, seven, seven), 0);
        definedTo(x, 0, x.node(Check.NOTHING, seven, seven, seven), 0);
    }

    @Sentence("or its RANK is above d: REFUSED.")
    private static void definitionOfARankThatNoneMayHave() {
        RulePayroll x = new RulePayroll();
        int seven = x.node(Check.DEFINED, 7, 0, 0);
        int upon = x.node(Check.NOT, seven, 0, 0);
        for (int d = 0; d < 8; d++) {
            definedTo(x, d, seven, Check.REFUSED);
            definedTo(x, d, upon, Check.REFUSED);
        }
        x.define(7, Check.number(x, 4));
        check.due("the node itself", 4, x.value(0, seven));
    }

    @Sentence("Definition d 0 .. 7 is not there any more: 0.")
    private static void undefineWhatIsNotThere() {
        RulePayroll x = new RulePayroll();
        int n = Check.number(x, 1);
        for (int d = 0; d < 8; d++) {
            check.due("undefine(" + d + ") of a new object", 0, x.undefine(d));
            x.define(d, n);
        }
        int there = 255;
        for (int d = 0; d < 8; d++) {
            check.due("undefine(" + d + ")", 0, x.undefine(d));
            there -= 1 << d;
            check.due("count(7)", there, x.count(7));
            check.due("undefine(" + d + ") twice", 0, x.undefine(d));
            check.due("count(7)", there, x.count(7));
        }
    }

    @Sentence({
        "Definition d 0 .. 7 is not there any more: 0.",
        "Numbers out of their ranges are REFUSED in every call."
    })
    private static void undefineOutOfRange() {
        RulePayroll x = new RulePayroll();
        int n = Check.number(x, 1);
        for (int d = 0; d < 8; d++) {
            x.define(d, n);
        }
        for (int bad : Check.outside(7)) {
            check.due("undefine(" + bad + ")", Check.REFUSED, x.undefine(bad));
            check.due("count(7)", 255, x.count(7));
        }
    }

    @Sentence({
        "A definition that is not there is EMPTY.",
        "Definition d 0 .. 7 is not there any more: 0."
    })
    private static void definitionThatIsNotThereIsEmpty() {
        RulePayroll x = new RulePayroll();
        int four = x.node(Check.DEFINED, 4, 0, 0);
        int upon = x.node(Check.ADD, four, four, 0);
        int number = Check.number(x, 6);
        check.due("before it is there", Check.EMPTY, x.value(0, four));
        check.due("a node upon it", Check.MISSING, x.value(0, upon));
        x.define(4, number);
        check.due("while it is there", 6, x.value(0, four));
        check.due("a node upon it", 12, x.value(0, upon));
        x.undefine(4);
        check.due("when it is not there any more", Check.EMPTY, x.value(0, four));
        check.due("a node upon it", Check.MISSING, x.value(0, upon));
        check.due("the node that it was", 6, x.value(0, number));
    }

    @Sentence("Definition d 0 .. 7 becomes the node: 0.")
    private static void definedAnew() {
        RulePayroll x = new RulePayroll();
        int zero = x.node(Check.DEFINED, 0, 0, 0);
        int seven = x.node(Check.DEFINED, 7, 0, 0);
        definedTo(x, 7, zero, 0);
        check.due("7 is 0, which is not there", Check.EMPTY, x.value(0, seven));
        definedTo(x, 0, Check.number(x, 3), 0);
        check.due("7 is 0", 3, x.value(0, seven));
        definedTo(x, 0, Check.number(x, 4), 0);
        check.due("7 is 0 anew", 4, x.value(0, seven));
        definedTo(x, 0, zero, Check.REFUSED);
        check.due("7 after a refusal", 4, x.value(0, seven));
    }

    private static void steppedTo(RulePayroll x, int t, int limit, int rate, int want) {
        int[] before = {x.count(5), x.count(6)};
        check.due("step(" + t + ", " + limit + ", " + rate + ")", want, x.step(t, limit, rate));
        check.due("count(5)", want > 0 && t == 0 ? want : before[0], x.count(5));
        check.due("count(6)", want > 0 && t == 1 ? want : before[1], x.count(6));
    }

    @Sentence({
        "Adds a step to table t 0 .. 1",
        "Numbers out of their ranges are REFUSED in every call."
    })
    private static void tableOutOfRange() {
        RulePayroll x = new RulePayroll();
        for (int bad : Check.outside(1)) {
            steppedTo(x, bad, 1, 1, Check.REFUSED);
        }
        steppedTo(x, 0, 1, 1, 1);
        steppedTo(x, 1, 1, 1, 1);
    }

    @Sentence("limit 1 or more")
    private static void limitIsOneOrMore() {
        RulePayroll x = new RulePayroll();
        for (int t = 0; t < 2; t++) {
            steppedTo(x, t, 0, 1000, Check.REFUSED);
            steppedTo(x, t, -1, 1000, Check.REFUSED);
            steppedTo(x, t, MIN_INT, 1000, Check.REFUSED);
            steppedTo(x, t, 1, 1000, 1);
        }
    }

    @Sentence({
        "(limits rise)",
        "and above that of the last step"
    })
    private static void limitIsAboveTheLast() {
        RulePayroll x = new RulePayroll();
        for (int t = 0; t < 2; t++) {
            steppedTo(x, t, 100, 1, 1);
            steppedTo(x, t, 99, 1, Check.REFUSED);
            steppedTo(x, t, 100, 1, Check.REFUSED);
            steppedTo(x, t, MIN_INT, 1, Check.REFUSED);
            steppedTo(x, t, 101, 1, 2);
            steppedTo(x, t, 101, 1, Check.REFUSED);
            steppedTo(x, t, 1, 1, Check.REFUSED);
            steppedTo(x, t, MAX_INT, 1, 3);
            steppedTo(x, t, MAX_INT, 1, Check.REFUSED);
            steppedTo(x, t, MIN_INT, 1, Check.REFUSED);
        }
    }

    @Sentence("rate 0 .. 1000")
    private static void rateOutOfRange() {
        RulePayroll x = new RulePayroll();
        for (int bad : Check.outside(1000)) {
            steppedTo(x, 0, 1, bad, Check.REFUSED);
        }
        steppedTo(x, 0, 1, 0, 1);
        steppedTo(x, 0, 2, 1000, 2);
        steppedTo(x, 1, 1, 1000, 1);
        steppedTo(x, 1, 2, 0, 2);
    }

    private static RulePayroll fiveStepsIn(int t) {
        RulePayroll x = new RulePayroll();
        for (int s = 1; s <= 5; s++) {
            x.step(t, 10 * s, 1000);
        }
        return x;
    }

    @Sentence({
        "19 SCALE: a table has steps 0, 1, .. (at most 5), each a limit (limits rise) and a rate.",
        "how many there are. 5 there: FULL."
    })
    private static void fiveSteps() {
        for (int t = 0; t < 2; t++) {
            RulePayroll x = new RulePayroll();
            for (int s = 1; s <= 5; s++) {
                steppedTo(x, t, 10 * s, 1000, s);
            }
            steppedTo(x, t, 51, 1000, Check.FULL);
            steppedTo(x, t, MAX_INT, 0, Check.FULL);
            steppedTo(x, 1 - t, 1, 1, 1);
            int scale = x.node(Check.SCALE, t, Check.number(x, 1000), 0);
            check.due("SCALE of the five", 50, x.value(0, scale));
        }
    }

    /** What is refused is refused, whether there is room or not: the ranges stand first in the promise. */
    @Sentence("limit 1 or more and above that of the last step, rate 0 .. 1000: how many there are. 5 "
        + "there: FULL.")
    private static void refusedStepWhenFull() {
        RulePayroll x = fiveStepsIn(1);
        steppedTo(x, 1, 50, 1, Check.REFUSED);
        steppedTo(x, 1, 0, 1, Check.REFUSED);
        steppedTo(x, 1, 51, 1001, Check.REFUSED);
        steppedTo(x, 1, 51, -1, Check.REFUSED);
    }

    @Sentence("Table t 0 .. 1 loses its steps: how many there were.")
    private static void clearTellsHowMany() {
        for (int t = 0; t < 2; t++) {
            for (int steps = 0; steps <= 5; steps++) {
                RulePayroll x = new RulePayroll();
                x.step(1 - t, 7, 7);
                for (int s = 1; s <= steps; s++) {
                    x.step(t, s, 1);
                }
                check.due("clear(" + t + ") of " + steps, steps, x.clear(t));
                check.due("count of steps", 0, x.count(5 + t));
                check.due("clear(" + t + ") twice", 0, x.clear(t));
                check.due("steps of the other table", 1, x.count(6 - t));
            }
        }
    }

    @Sentence({
        "Table t 0 .. 1 loses its steps",
        "Numbers out of their ranges are REFUSED in every call."
    })
    private static void clearOutOfRange() {
        RulePayroll x = fiveStepsIn(0);
        x.step(1, 1, 1);
        for (int bad : Check.outside(1)) {
            check.due("clear(" + bad + ")", Check.REFUSED, x.clear(bad));
            check.due("count(5)", 5, x.count(5));
            check.due("count(6)", 1, x.count(6));
        }
    }

    @Sentence("Table t 0 .. 1 loses its steps")
    private static void stepsAfterClear() {
        RulePayroll x = fiveStepsIn(0);
        int scale = x.node(Check.SCALE, 0, Check.number(x, 1000), 0);
        x.clear(0);
        check.due("SCALE without steps", 0, x.value(0, scale));
        steppedTo(x, 0, 1, 1000, 1);
        check.due("SCALE of one step", 1, x.value(0, scale));
        for (int s = 2; s <= 5; s++) {
            steppedTo(x, 0, s, 0, s);
        }
        steppedTo(x, 0, 6, 0, Check.FULL);
        check.due("SCALE of five steps", 1, x.value(0, scale));
    }

    /** A payroll with table 0 of the limits and rates, in turn, and node 1 its SCALE of input 0. */
    private static RulePayroll scale(int... limitsAndRates) {
        RulePayroll x = new RulePayroll();
        x.node(Check.SCALE, 0, Check.inputNode(x, 0), 0);
        for (int i = 0; i < limitsAndRates.length; i += 2) {
            x.step(0, limitsAndRates[i], limitsAndRates[i + 1]);
        }
        return x;
    }

    private static void scaled(RulePayroll x, int amount, long want) {
        x.input(0, 0, amount);
        check.due("SCALE of " + amount, want, x.value(0, 1));
    }

    @Sentence("An amount x of 0 or less gives 0.")
    private static void amountOfZeroOrLess() {
        RulePayroll x = scale(1, 1000, 10, 500, MAX_INT, 1000);
        scaled(x, 0, 0);
        scaled(x, -1, 0);
        scaled(x, -1000, 0);
        scaled(x, -MAX_INT, 0);
        scaled(x, MIN_INT, 0);
        scaled(x, 1, 1);
    }

    @Sentence("Else of the part of x that is above the limit of the step before (0 for step 0) and not "
        + "above its own the rate in thousandths is taken")
    private static void partsBetweenLimits() {
        RulePayroll x = scale(10, 1000, 20, 0, 30, 1000, 40, 500, 50, 1000);
        int[][] rows = {
            {1, 1}, {9, 9}, {10, 10}, {11, 10}, {19, 10}, {20, 10}, {21, 11}, {29, 19}, {30, 20},
            {31, 21}, {32, 21}, {39, 25}, {40, 25}, {41, 26}, {49, 34}, {50, 35}
        };
        for (int[] row : rows) {
            scaled(x, row[0], row[1]);
        }
        RulePayroll y = scale(1, 0, 2, 1000, 3, 0);
        scaled(y, 1, 0);
        scaled(y, 2, 1);
        scaled(y, 3, 1);
        scaled(y, 4, 1);
    }

    @Sentence("of the part above the last limit")
    private static void nothingAboveTheLastLimit() {
        RulePayroll x = scale(100, 1000);
        scaled(x, 99, 99);
        scaled(x, 100, 100);
        scaled(x, 101, 100);
        scaled(x, MAX_INT, 100);
        x.step(0, 200, 100);
        scaled(x, 200, 110);
        scaled(x, 201, 110);
        scaled(x, MAX_INT, 110);
    }

    @Sentence("(above 0 without steps) nothing")
    private static void nothingWithoutSteps() {
        RulePayroll x = scale();
        scaled(x, MIN_INT, 0);
        scaled(x, 0, 0);
        scaled(x, 1, 0);
        scaled(x, 1000, 0);
        scaled(x, MAX_INT, 0);
    }

    @Sentence("the sum of these, in thousandths, is divided by 1000 and ROUNDED.")
    private static void sumIsRounded() {
        scaled(scale(1000, 499), 1, 0);
        scaled(scale(1000, 500), 1, 1);
        scaled(scale(1000, 501), 1, 1);
        scaled(scale(1000, 1), 499, 0);
        scaled(scale(1000, 1), 500, 1);
        scaled(scale(2000, 1), 1499, 1);
        scaled(scale(2000, 1), 1500, 2);
        scaled(scale(1, 250, 2, 249), 2, 0);
        scaled(scale(1, 250, 2, 250), 2, 1);
        scaled(scale(1, 500, 2, 500), 2, 1);
        scaled(scale(1, 100, 2, 100, 3, 100, 4, 100, 5, 99), 5, 0);
        scaled(scale(1, 100, 2, 100, 3, 100, 4, 100, 5, 100), 5, 1);
        scaled(scale(1, 300, 2, 300, 3, 300, 4, 300, 5, 300), 5, 2);
    }

    /** The sum in thousandths is far beyond the ints, what is left of it is not. */
    @Sentence("the sum of these, in thousandths, is divided by 1000 and ROUNDED.")
    private static void greatestAmounts() {
        scaled(scale(MAX_INT, 1000), MAX_INT, MAX_INT);
        scaled(scale(MAX_INT, 1), MAX_INT, 2147484);
        scaled(scale(MAX_INT, 999), MAX_INT, 2145336163);
        scaled(scale(MAX_INT, 0), MAX_INT, 0);
        scaled(scale(MAX_INT - 1, 1000), MAX_INT, MAX_INT - 1);
        scaled(scale(MAX_INT - 1, 0, MAX_INT, 1000), MAX_INT, 1);
        scaled(scale(1, 1000, 2, 1000, 3, 1000, 4, 1000, MAX_INT, 1000), MAX_INT, MAX_INT);
    }
}
