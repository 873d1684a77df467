/** Promise 9 and the terms VALUE, kinds, ROUNDED, WORKING OUT, ALSO and DEFAULT: each sentence, at its edges too. */
public final class WorkingOutEdgeTest {
    private static final Check check = new Check();
    private static final int MIN_INT = Check.MIN_INT;
    private static final int MAX_INT = Check.MAX_INT;

    /** The nodes of samples(), every sort of VALUE there is: from FIRST_FAULT on the four FAULTS. */
    private static final int INT = 0;
    private static final int FALSE = 1;
    private static final int EMPTY = 2;
    private static final int FIRST_FAULT = 3;
    private static final int SAMPLES = 7;
    private static final long[] VALUES = {
        5, 0, Check.EMPTY, Check.CONFLICT, Check.MISSING, Check.ZERO, Check.RANGE
    };

    public static void main(String[] args) {
        check.run(WorkingOutEdgeTest.class);
        check.end();
    }

    private static long of(int kind, int a, int b, int c) {
        RulePayroll x = new RulePayroll();
        int first = Check.number(x, a);
        int second = Check.number(x, b);
        return x.value(0, x.node(kind, first, second, Check.number(x, c)));
    }

    private static void due(int kind, int a, int b, long want) {
        check.due("kind " + kind + " of " + a + ", " + b, want, of(kind, a, b, 0));
    }

    private static void shareDue(int a, int b, int c, long want) {
        check.due("SHARE of " + a + ", " + b + ", " + c, want, of(Check.SHARE, a, b, c));
    }

    private static RulePayroll samples() {
        RulePayroll x = new RulePayroll();
        Check.number(x, 5);
        Check.number(x, 0);
        Check.nothing(x);
        for (int d = 0; d < 4; d++) {
            x.node(Check.DEFINED, d, 0, 0);
        }
        x.define(0, Check.conflictFault(x));
        x.define(1, Check.missingFault(x));
        x.define(2, Check.zeroFault(x));
        x.define(3, Check.rangeFault(x));
        return x;
    }

    private static long ofSamples(int kind, int a, int b, int c) {
        RulePayroll x = samples();
        return x.value(0, x.node(kind, a, b, c));
    }

    private static boolean isInt(int sample) {
        return sample == INT || sample == FALSE;
    }

    /** What an operand that is no int makes of a node. */
    private static long faultOf(int sample) {
        return sample == EMPTY ? Check.MISSING : VALUES[sample];
    }

    @Sentence({
        "A VALUE is an int, or EMPTY, or a FAULT: 1 CONFLICT, 2 MISSING, 3 ZERO (a division by 0), "
            + "4 RANGE (a result that is no int).",
        "FAULT + f for a FAULT"
    })
    private static void everySortOfValue() {
        RulePayroll x = samples();
        for (int n = 0; n < SAMPLES; n++) {
            check.due("sample " + n, VALUES[n], x.value(0, n));
        }
        x.node(Check.INPUT, 0, 0, 0);
        int input = x.count(0) - 1;
        int[] ends = {MIN_INT, -1, 0, 1, MAX_INT};
        for (int end : ends) {
            x.input(0, 0, end);
            check.due("an input of " + end, end, x.value(0, input));
        }
    }

    @Sentence("The constants: `FAULT = 1000000000100L`: FAULT f is FAULT + f.")
    private static void faultsByTheirNumbers() {
        check.due("FAULT", 1000000000100L, RulePayroll.FAULT);
        RulePayroll x = new RulePayroll();
        check.due("CONFLICT", 1000000000101L, x.value(0, Check.conflictFault(x)));
        check.due("MISSING", 1000000000102L, x.value(0, Check.missingFault(x)));
        check.due("ZERO", 1000000000103L, x.value(0, Check.zeroFault(x)));
        check.due("RANGE", 1000000000104L, x.value(0, Check.rangeFault(x)));
    }

    @Sentence("4 ADD 5 SUB 6 MUL")
    private static void addSubAndMul() {
        int[] values = {-70000, -12, -1, 0, 1, 5, 12, 30000};
        for (int a : values) {
            for (int b : values) {
                due(Check.ADD, a, b, a + b);
                due(Check.SUB, a, b, a - b);
                long product = (long) a * b;
                due(Check.MUL, a, b, product == (int) product ? product : Check.RANGE);
            }
        }
        check.due("a node added to itself", 14, ofOneNode(Check.ADD, 7));
        check.due("a node taken from itself", 0, ofOneNode(Check.SUB, 7));
        check.due("a node times itself", 49, ofOneNode(Check.MUL, 7));
    }

    private static long ofOneNode(int kind, int a) {
        RulePayroll x = new RulePayroll();
        int n = Check.number(x, a);
        return x.value(0, x.node(kind, n, n, 0));
    }

    @Sentence("11 SHARE of nodes a, b, c: a * b / c, ROUNDED.")
    private static void sharesOfThreeNodes() {
        shareDue(12, 5, 4, 15);
        shareDue(5, 12, 4, 15);
        shareDue(12, 4, 5, 10);
        shareDue(4, 12, 5, 10);
        shareDue(5, 4, 12, 2);
        shareDue(100, 333, 1000, 33);
        shareDue(100, 335, 1000, 34);
        shareDue(0, 12, 5, 0);
        shareDue(12, 0, 5, 0);
    }

    @Sentence("12 NOT of node a: 1 if it is 0, else 0.")
    private static void notOfANode() {
        due(Check.NOT, 0, 0, 1);
        int[] others = {MIN_INT, -2, -1, 1, 2, MAX_INT};
        for (int a : others) {
            due(Check.NOT, a, 0, 0);
        }
    }

    @Sentence("13 BOTH, 14 ANY of nodes a, b: 1 if both are true, one is true, else 0.")
    private static void bothAndAny() {
        int[][] rows = {{0, 0, 0, 0}, {0, 1, 0, 1}, {1, 0, 0, 1}, {1, 1, 1, 1}, {2, 4, 1, 1}, {-1, 0, 0, 1}, {0, -1, 0, 1}};
        for (int[] row : rows) {
            due(Check.BOTH, row[0], row[1], row[2]);
            due(Check.ANY, row[0], row[1], row[3]);
        }
    }

    @Sentence("15 IF node a: node b, else node c.")
    private static void ifTakesBOrC() {
        int[][] rows = {{1, 7, 8, 7}, {0, 7, 8, 8}, {-1, 0, 8, 0}, {0, 7, 0, 0}, {MIN_INT, 7, 8, 7}, {MAX_INT, -7, 8, -7}};
        for (int[] row : rows) {
            check.due("IF " + row[0] + ": " + row[1] + ", else " + row[2], row[3], of(Check.IF, row[0], row[1], row[2]));
        }
    }

    @Sentence("16 NOTHING: EMPTY.")
    private static void nothingIsEmpty() {
        RulePayroll x = new RulePayroll();
        int[] anys = {0, -1, 7, MAX_INT};
        for (int any : anys) {
            int n = x.node(Check.NOTHING, any, any, any);
            for (int p = 0; p < 6; p++) {
                check.due("NOTHING for " + p, 1000000000001L, x.value(p, n));
            }
        }
    }

    @Sentence("Truth is an int: other than 0 true.")
    private static void truthIsOtherThanZero() {
        int[] values = {0, 1, -1, 2, 256, 65536, 1 << 30, MIN_INT, MAX_INT};
        for (int a : values) {
            int truth = a == 0 ? 0 : 1;
            due(Check.NOT, a, 0, 1 - truth);
            check.due("IF " + a, truth == 1 ? 7 : 8, of(Check.IF, a, 7, 8));
            check.due("DEFAULT -1, " + a, truth == 1 ? 7 : Check.EMPTY, defaultOf(a, 7));
            for (int b : values) {
                due(Check.BOTH, a, b, a != 0 && b != 0 ? 1 : 0);
                due(Check.ANY, a, b, a != 0 || b != 0 ? 1 : 0);
            }
        }
    }

    private static long defaultOf(int b, int c) {
        RulePayroll x = new RulePayroll();
        int condition = Check.number(x, b);
        return x.value(0, x.node(Check.DEFAULT, -1, condition, Check.number(x, c)));
    }

    @Sentence({
        "7 LESS 8 SAME",
        "LESS and SAME give 1 or 0."
    })
    private static void lessAndSameGiveOneOrZero() {
        int[] values = {MIN_INT, MIN_INT + 1, -1, 0, 1, MAX_INT - 1, MAX_INT};
        for (int a : values) {
            for (int b : values) {
                due(Check.LESS, a, b, a < b ? 1 : 0);
                due(Check.SAME, a, b, a == b ? 1 : 0);
            }
        }
    }

    @Sentence("9 MIN 10 MAX of nodes a, b")
    private static void minAndMax() {
        int[] values = {MIN_INT, -1, 0, 1, MAX_INT};
        for (int a : values) {
            for (int b : values) {
                due(Check.MIN, a, b, a < b ? a : b);
                due(Check.MAX, a, b, a < b ? b : a);
            }
        }
    }

    @Sentence("ROUNDED: the nearest whole number")
    private static void rounded() {
        int[][] sizes = {
            {0, 5, 0}, {1, 3, 0}, {2, 3, 1}, {3, 3, 1}, {4, 3, 1}, {5, 3, 2}, {1, 4, 0}, {3, 4, 1}, {2, 5, 0},
            {3, 5, 1}, {499, 1000, 0}, {501, 1000, 1}, {1499, 1000, 1}, {1501, 1000, 2}, {7, 1, 7}
        };
        for (int[] row : sizes) {
            withBothSigns(row[0], row[1], row[2]);
        }
    }

    @Sentence("of two equally near the one farther from 0.")
    private static void roundedOfTwoEquallyNear() {
        int[][] sizes = {{1, 2, 1}, {3, 2, 2}, {5, 2, 3}, {2, 4, 1}, {6, 4, 2}, {3, 6, 1}, {500, 1000, 1}, {1500, 1000, 2}};
        for (int[] row : sizes) {
            withBothSigns(row[0], row[1], row[2]);
        }
    }

    private static void withBothSigns(int number, int divisor, int size) {
        shareDue(number, 1, divisor, size);
        shareDue(-number, 1, divisor, -size);
        shareDue(1, number, -divisor, -size);
        shareDue(1, -number, -divisor, size);
        shareDue(-1, -number, divisor, size);
    }

    @Sentence("11 SHARE of nodes a, b, c: a * b / c, ROUNDED.")
    private static void roundedWithTheGreatestDivisors() {
        int half = 1 << 30;
        shareDue(half - 1, 1, MAX_INT, 0);
        shareDue(half, 1, MAX_INT, 1);
        shareDue(-half, 1, MAX_INT, -1);
        shareDue(half - 1, 1, MIN_INT, 0);
        shareDue(half, 1, MIN_INT, -1);
        shareDue(-half, 1, MIN_INT, 1);
        shareDue(1, 1, MIN_INT, 0);
        shareDue(MAX_INT, MAX_INT, MAX_INT, MAX_INT);
        shareDue(MAX_INT, MAX_INT, MIN_INT, -(MAX_INT - 1));
        shareDue(MIN_INT, MIN_INT, MIN_INT, MIN_INT);
        shareDue(MIN_INT, MAX_INT, MIN_INT, MAX_INT);
        shareDue(MIN_INT, MAX_INT, MAX_INT, MIN_INT);
        shareDue(MIN_INT, 1, 1, MIN_INT);
        shareDue(MAX_INT, 1, 1, MAX_INT);
    }

    @Sentence({
        "WORKING OUT a node (4 to 15, 19): its operand nodes in the order a, b, c",
        "The first operand that is a FAULT or EMPTY: that FAULT, or MISSING (the operands behind it "
            + "do not matter)."
    })
    private static void firstOperandThatIsNoInt() {
        for (int bad = EMPTY; bad < SAMPLES; bad++) {
            for (int behind = 0; behind < SAMPLES; behind++) {
                for (int kind = Check.ADD; kind <= Check.IF; kind++) {
                    check.due("kind " + kind + " of " + bad + ", " + behind, faultOf(bad), ofSamples(kind, bad, behind, behind));
                }
            }
            check.due("SCALE of " + bad, faultOf(bad), ofSamples(Check.SCALE, 0, bad, 0));
            check.due("SCALE by table 1 of " + bad, faultOf(bad), ofSamples(Check.SCALE, 1, bad, 0));
        }
    }

    @Sentence("WORKING OUT a node (4 to 15, 19): its operand nodes in the order a, b, c")
    private static void secondAndThirdOperandThatIsNoInt() {
        for (int bad = EMPTY; bad < SAMPLES; bad++) {
            for (int first = INT; first <= FALSE; first++) {
                for (int kind = Check.ADD; kind <= Check.MAX; kind++) {
                    check.due("second of kind " + kind, faultOf(bad), ofSamples(kind, first, bad, 0));
                }
                check.due("third of SHARE", faultOf(bad), ofSamples(Check.SHARE, first, INT, bad));
                check.due("third of SHARE", faultOf(bad), ofSamples(Check.SHARE, first, FALSE, bad));
                for (int behind = 0; behind < SAMPLES; behind++) {
                    check.due("second of SHARE", faultOf(bad), ofSamples(Check.SHARE, first, bad, behind));
                }
            }
        }
    }

    @Sentence("but of 13 b only if a is true")
    private static void bothWorksOutTheSecondOnlyIfTrue() {
        for (int b = 0; b < SAMPLES; b++) {
            check.due("BOTH of 0 and sample " + b, 0, ofSamples(Check.BOTH, FALSE, b, 0));
            long want = b == INT ? 1 : b == FALSE ? 0 : faultOf(b);
            check.due("BOTH of 5 and sample " + b, want, ofSamples(Check.BOTH, INT, b, 0));
        }
    }

    @Sentence("of 14 b only if a is 0")
    private static void anyWorksOutTheSecondOnlyIfZero() {
        for (int b = 0; b < SAMPLES; b++) {
            check.due("ANY of 5 and sample " + b, 1, ofSamples(Check.ANY, INT, b, 0));
            long want = b == INT ? 1 : b == FALSE ? 0 : faultOf(b);
            check.due("ANY of 0 and sample " + b, want, ofSamples(Check.ANY, FALSE, b, 0));
        }
    }

    @Sentence({
        "of 15 only the one of b and c that is taken.",
        "(15: what is taken is the VALUE as it is, EMPTY or a FAULT too.)"
    })
    private static void ifWorksOutOnlyWhatIsTaken() {
        for (int b = 0; b < SAMPLES; b++) {
            for (int c = 0; c < SAMPLES; c++) {
                check.due("IF 5: " + b + ", else " + c, VALUES[b], ofSamples(Check.IF, INT, b, c));
                check.due("IF 0: " + b + ", else " + c, VALUES[c], ofSamples(Check.IF, FALSE, b, c));
            }
        }
    }

    @Sentence("Then for 11 c is 0: ZERO; then a result that is no int: RANGE.")
    private static void divisionByZero() {
        shareDue(1, 1, 0, Check.ZERO);
        shareDue(0, 0, 0, Check.ZERO);
        shareDue(MAX_INT, MAX_INT, 0, Check.ZERO);
        shareDue(MIN_INT, MIN_INT, 0, Check.ZERO);
        shareDue(0, 7, 1, 0);
        shareDue(0, 7, -1, 0);
        for (int bad = EMPTY; bad < SAMPLES; bad++) {
            check.due("a of SHARE before c is 0", faultOf(bad), ofSamples(Check.SHARE, bad, INT, FALSE));
            check.due("b of SHARE before c is 0", faultOf(bad), ofSamples(Check.SHARE, INT, bad, FALSE));
        }
    }

    @Sentence("then a result that is no int: RANGE.")
    private static void resultsAtTheEdgesOfTheInts() {
        due(Check.ADD, MAX_INT - 1, 1, MAX_INT);
        due(Check.ADD, MAX_INT, 1, Check.RANGE);
        due(Check.ADD, MAX_INT, MAX_INT, Check.RANGE);
        due(Check.ADD, MIN_INT + 1, -1, MIN_INT);
        due(Check.ADD, MIN_INT, -1, Check.RANGE);
        due(Check.ADD, MIN_INT, MIN_INT, Check.RANGE);
        due(Check.ADD, MIN_INT, MAX_INT, -1);
        due(Check.SUB, MIN_INT + 1, 1, MIN_INT);
        due(Check.SUB, MIN_INT, 1, Check.RANGE);
        due(Check.SUB, MAX_INT - 1, -1, MAX_INT);
        due(Check.SUB, MAX_INT, -1, Check.RANGE);
        due(Check.SUB, -1, MIN_INT, MAX_INT);
        due(Check.SUB, 0, MIN_INT, Check.RANGE);
        due(Check.SUB, MIN_INT, MIN_INT, 0);
        due(Check.SUB, MAX_INT, MIN_INT, Check.RANGE);
        due(Check.MUL, 1 << 15, -(1 << 16), MIN_INT);
        due(Check.MUL, 1 << 15, 1 << 16, Check.RANGE);
        due(Check.MUL, MIN_INT, 1, MIN_INT);
        due(Check.MUL, MIN_INT, -1, Check.RANGE);
        due(Check.MUL, MAX_INT, -1, -MAX_INT);
        due(Check.MUL, 2, 1 << 30, Check.RANGE);
        due(Check.MUL, 2, (1 << 30) - 1, MAX_INT - 1);
        due(Check.MUL, 5, 429496729, MAX_INT - 2);
        due(Check.MUL, 3, -715827883, Check.RANGE);
        due(Check.MUL, -3, 715827882, MIN_INT + 2);
        due(Check.MUL, 1, MAX_INT, MAX_INT);
    }

    @Sentence({
        "11 SHARE of nodes a, b, c: a * b / c, ROUNDED.",
        "then a result that is no int: RANGE."
    })
    private static void sharesAtTheEdgesOfTheInts() {
        shareDue(29, 296204641, 4, MAX_INT);
        shareDue(5, 1717986918, 4, Check.RANGE);
        shareDue(3, 1431655765, 2, Check.RANGE);
        shareDue(7, 1533916891, 5, MAX_INT);
        shareDue(479, 22416322, 5, Check.RANGE);
        shareDue(-3, 1431655765, 2, MIN_INT);
        shareDue(6, 1789569707, -5, MIN_INT);
        shareDue(43, -249707401, 5, Check.RANGE);
        shareDue(-641, 6700417, 2, Check.RANGE);
        shareDue(-29, 296204641, 4, -MAX_INT);
        shareDue(MIN_INT, -1, 1, Check.RANGE);
        shareDue(MIN_INT, 1, -1, Check.RANGE);
        shareDue(MIN_INT, -1, -1, MIN_INT);
        shareDue(MAX_INT, 1, -1, -MAX_INT);
        shareDue(MIN_INT, MIN_INT, MAX_INT, Check.RANGE);
    }

    /** 2 to the 32nd and 2 to the 62nd: what int arithmetic would make of them looks like a good int. */
    @Sentence("then a result that is no int: RANGE.")
    private static void productsThatWouldWrap() {
        due(Check.MUL, 65536, 65536, Check.RANGE);
        due(Check.MUL, 65536, -65536, Check.RANGE);
        due(Check.MUL, MIN_INT, MIN_INT, Check.RANGE);
        due(Check.MUL, MIN_INT, MAX_INT, Check.RANGE);
        due(Check.MUL, MAX_INT, MAX_INT, Check.RANGE);
        due(Check.MUL, MIN_INT, 2, Check.RANGE);
        shareDue(65536, 65536, 1, Check.RANGE);
        shareDue(MIN_INT, MIN_INT, 1, Check.RANGE);
        shareDue(MIN_INT, MIN_INT, -1, Check.RANGE);
        shareDue(65536, 65536, 65536, 65536);
        shareDue(MAX_INT, 1000, 1000, MAX_INT);
    }

    @Sentence({
        "18 ALSO of nodes a, b: below.",
        "18 ALSO: a, then b, are worked out, always both: a FAULT: the first one; both are ints: "
            + "CONFLICT; one is an int: that; else EMPTY."
    })
    private static void also() {
        for (int a = 0; a < SAMPLES; a++) {
            for (int b = 0; b < SAMPLES; b++) {
                check.due("ALSO of " + a + ", " + b, alsoOf(a, b), ofSamples(Check.ALSO, a, b, 0));
            }
        }
    }

    private static long alsoOf(int a, int b) {
        if (a >= FIRST_FAULT) {
            return VALUES[a];
        }
        if (b >= FIRST_FAULT) {
            return VALUES[b];
        }
        if (isInt(a)) {
            return isInt(b) ? Check.CONFLICT : VALUES[a];
        }
        return VALUES[b];
    }

    @Sentence({
        "17 DEFAULT: a, unless it is -1: a FAULT or an int: that.",
        "Else (EMPTY, or -1) b is worked out: a FAULT: that; EMPTY: MISSING; 0: EMPTY; else c: its "
            + "VALUE as it is."
    })
    private static void defaults() {
        for (int a = -1; a < SAMPLES; a++) {
            for (int b = 0; b < SAMPLES; b++) {
                for (int c = 0; c < SAMPLES; c++) {
                    String what = "DEFAULT of " + a + ", " + b + ", " + c;
                    check.due(what, defaultOfSamples(a, b, c), ofSamples(Check.DEFAULT, a, b, c));
                }
            }
        }
    }

    private static long defaultOfSamples(int a, int b, int c) {
        if (a != -1 && a != EMPTY) {
            return VALUES[a];
        }
        if (!isInt(b)) {
            return faultOf(b);
        }
        return b == FALSE ? Check.EMPTY : VALUES[c];
    }

    /** For each person its own, by inputs, definitions, steps and pay as they have come to be. */
    @Sentence("The VALUE of a node for person p 0 .. 5 now")
    private static void valueIsOfNow() {
        RulePayroll x = Check.payrollOfInputs();
        int paidGross = x.node(Check.PAID, 0, 0, 0);
        int seven = x.node(Check.DEFINED, 7, 0, 0);
        int scale = x.node(Check.SCALE, 1, seven, 0);
        x.define(7, x.node(Check.ADD, 0, paidGross, 0));
        for (int p = 0; p < 6; p++) {
            Check.wages(x, p, 100 + p, 0, 100 + p);
            check.due("an input", 100 + p, x.value(p, 0));
            check.due("a definition", 100 + p, x.value(p, seven));
            check.due("a scale without steps", 0, x.value(p, scale));
        }
        x.step(1, 1000, 500);
        x.activate(4, true);
        x.pay();
        check.due("PAID of who is paid", 104, x.value(4, paidGross));
        check.due("a definition of who is paid", 208, x.value(4, seven));
        check.due("a scale of who is paid", 104, x.value(4, scale));
        check.due("a definition of who is not", 105, x.value(5, seven));
        check.due("a scale of who is not", 53, x.value(5, scale));
        x.define(7, 1);
        check.due("a definition made anew", 0, x.value(4, seven));
        x.back(0);
        check.due("PAID of who is paid no more", 0, x.value(4, paidGross));
    }

    @Sentence("NONE if there is no such node or person")
    private static void noSuchNodeOrPerson() {
        RulePayroll x = new RulePayroll();
        check.due("node 0 of a new object", Check.NONE, x.value(0, 0));
        Check.number(x, 1);
        Check.number(x, 2);
        for (int bad : Check.outside(5)) {
            check.due("value of person " + bad, Check.NONE, x.value(bad, 0));
        }
        for (int bad : Check.outside(1)) {
            check.due("value of node " + bad, Check.NONE, x.value(0, bad));
            check.due("value of both " + bad, Check.NONE, x.value(bad, bad));
        }
        for (int p = 0; p < 6; p++) {
            check.due("the first node for " + p, 1, x.value(p, 0));
            check.due("the last node for " + p, 2, x.value(p, 1));
        }
        int later = Check.number(x, 3);
        check.due("a node once it is made", 3, x.value(0, later));
    }

    /** PAID gross or tax goes to just within the ints and to just beyond, by a run that is taken back. */
    @Sentence("or the person's PAID is no int.")
    private static void paidThatIsNoInt() {
        long[][] rows = {
            {MAX_INT, 0}, {MAX_INT + 1L, 0}, {MIN_INT, 0}, {MIN_INT - 1L, 0},
            {0, MAX_INT}, {0, MAX_INT + 1L}, {0, MIN_INT}, {0, MIN_INT - 1L}
        };
        for (long[] row : rows) {
            RulePayroll x = Check.payrollOfInputs();
            int number = Check.number(x, 7);
            int paidGross = x.node(Check.PAID, 0, 0, 0);
            int paidTax = x.node(Check.PAID, 1, 0, 0);
            Check.bringPaidTo(x, 3, row[0], row[1]);
            boolean isInt = row[0] == (int) row[0] && row[1] == (int) row[1];
            check.due("paid gross", row[0], x.paid(3, 0));
            check.due("paid tax", row[1], x.paid(3, 1));
            check.due("a number", isInt ? 7 : Check.NONE, x.value(3, number));
            check.due("PAID gross", isInt ? row[0] : Check.NONE, x.value(3, paidGross));
            check.due("PAID tax", isInt ? row[1] : Check.NONE, x.value(3, paidTax));
            check.due("a number for another person", 7, x.value(2, number));
        }
    }
}
