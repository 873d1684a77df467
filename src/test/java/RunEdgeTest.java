/** Promises 7, 8 and 10 to 12 and the terms PERSONS, PAY RUN, HELD and TAKEN BACK: each sentence, at its edges too. */
public final class RunEdgeTest {
    private static final Check check = new Check();
    private static final int MIN_INT = Check.MIN_INT;
    private static final int MAX_INT = Check.MAX_INT;

    public static void main(String[] args) {
        check.run(RunEdgeTest.class);
        check.end();
    }

    private static RulePayroll payrollOf(int p, int gross, int tax, int net) {
        RulePayroll x = Check.payrollOfInputs();
        x.activate(p, true);
        Check.wages(x, p, gross, tax, net);
        return x;
    }

    @Sentence("PERSONS 0 .. 5 have 8 inputs, all 0 at first")
    private static void inputsAreZeroAtFirst() {
        RulePayroll x = new RulePayroll();
        for (int i = 0; i < 8; i++) {
            Check.inputNode(x, i);
            for (int p = 0; p < 6; p++) {
                check.due("input " + i + " of " + p, 0, x.value(p, i));
            }
        }
    }

    @Sentence({
        "PERSONS 0 .. 5 have 8 inputs",
        "Sets input i 0 .. 7 of person p 0 .. 5: 0.",
        "Numbers out of their ranges are REFUSED in every call."
    })
    private static void inputOutOfRange() {
        RulePayroll x = new RulePayroll();
        for (int i = 0; i < 8; i++) {
            Check.inputNode(x, i);
        }
        for (int bad : Check.outside(5)) {
            check.due("input(" + bad + ", 0, 9)", Check.REFUSED, x.input(bad, 0, 9));
            check.due("input(" + bad + ", 7, 9)", Check.REFUSED, x.input(bad, 7, 9));
        }
        for (int bad : Check.outside(7)) {
            check.due("input(0, " + bad + ", 9)", Check.REFUSED, x.input(0, bad, 9));
            check.due("input(5, " + bad + ", 9)", Check.REFUSED, x.input(5, bad, 9));
            check.due("input(" + bad + ", " + bad + ", 9)", Check.REFUSED, x.input(bad, bad, 9));
        }
        for (int p = 0; p < 6; p++) {
            for (int i = 0; i < 8; i++) {
                check.due("input " + i + " of " + p + " after refusals", 0, x.value(p, i));
            }
        }
        for (int p = 0; p < 6; p += 5) {
            for (int i = 0; i < 8; i += 7) {
                check.due("input(" + p + ", " + i + ", 9)", 0, x.input(p, i, 9));
            }
        }
        for (int p = 0; p < 6; p++) {
            for (int i = 0; i < 8; i++) {
                boolean set = (p == 0 || p == 5) && (i == 0 || i == 7);
                check.due("input " + i + " of " + p, set ? 9 : 0, x.value(p, i));
            }
        }
    }

    @Sentence("Sets input i 0 .. 7 of person p 0 .. 5: 0.")
    private static void inputIsAnyInt() {
        RulePayroll x = new RulePayroll();
        Check.inputNode(x, 7);
        int[] values = {MIN_INT, MIN_INT + 1, -1, 0, 1, MAX_INT - 1, MAX_INT, 0};
        for (int value : values) {
            check.due("input(5, 7, " + value + ")", 0, x.input(5, 7, value));
            check.due("input 7 of 5", value, x.value(5, 0));
        }
    }

    @Sentence("and PAID gross and tax, 0 at first")
    private static void nothingIsPaidAtFirst() {
        RulePayroll x = new RulePayroll();
        for (int what = 0; what < 2; what++) {
            int n = x.node(Check.PAID, what, 0, 0);
            for (int p = 0; p < 6; p++) {
                check.due("paid(" + p + ", " + what + ")", 0, x.paid(p, what));
                check.due("PAID " + what + " of " + p, 0, x.value(p, n));
            }
        }
    }

    @Sentence("and are active or not (not at first).")
    private static void noneActiveAtFirst() {
        RulePayroll x = Check.payrollOfInputs();
        check.due("count(4)", 0, x.count(4));
        x.pay();
        for (int p = 0; p < 6; p++) {
            check.due("slip of " + p, Check.NONE, x.slip(0, p, 0));
            check.due("held " + p, 0, x.held(0, p));
        }
    }

    @Sentence({
        "Person p 0 .. 5 is active or not",
        "Numbers out of their ranges are REFUSED in every call."
    })
    private static void activateOutOfRange() {
        RulePayroll x = new RulePayroll();
        for (int bad : Check.outside(5)) {
            check.due("activate(" + bad + ", true)", Check.REFUSED, x.activate(bad, true));
            check.due("count(4)", 0, x.count(4));
        }
        for (int p = 0; p < 6; p++) {
            check.due("activate(" + p + ", false) of who is not", 0, x.activate(p, false));
            check.due("activate(" + p + ", true)", 0, x.activate(p, true));
            check.due("activate(" + p + ", true) twice", 0, x.activate(p, true));
            check.due("count(4)", p + 1, x.count(4));
        }
        for (int bad : Check.outside(5)) {
            check.due("activate(" + bad + ", false)", Check.REFUSED, x.activate(bad, false));
            check.due("count(4)", 6, x.count(4));
        }
    }

    @Sentence("Person p 0 .. 5 is active or not from now on: 0.")
    private static void activeFromNowOn() {
        RulePayroll x = payrollOf(5, 3, 1, 2);
        x.pay();
        x.activate(5, false);
        check.due("the slip from before", 3, x.slip(0, 5, 0));
        check.due("paid from before", 3, x.paid(5, 0));
        check.due("count(3)", 1, x.count(3));
        x.pay();
        check.due("no slip from now on", Check.NONE, x.slip(1, 5, 0));
        x.activate(5, true);
        check.due("no slip of the run in between", Check.NONE, x.slip(1, 5, 0));
        x.pay();
        check.due("a slip again", 3, x.slip(2, 5, 0));
    }

    @Sentence({
        "A PAY RUN, numbered 0, 1, .. (at most 16)",
        "A PAY RUN is made: its number. 16 were made: FULL."
    })
    private static void runsAreNumberedUpToSixteen() {
        RulePayroll x = payrollOf(0, 10, 4, 6);
        for (int r = 0; r < 16; r++) {
            check.due("pay()", r, x.pay());
            check.due("count(1)", r + 1, x.count(1));
        }
        for (int more = 0; more < 3; more++) {
            check.due("pay() after 16", Check.FULL, x.pay());
            check.due("count(1)", 16, x.count(1));
            check.due("paid gross", 160, x.paid(0, 0));
            check.due("account(1)", -64, x.account(1));
        }
        check.due("slip of the last", 10, x.slip(15, 0, 0));
        check.due("slip behind the last", Check.NONE, x.slip(16, 0, 0));
    }

    @Sentence("16 were made: FULL.")
    private static void runsTakenBackMakeNoRoom() {
        RulePayroll x = payrollOf(0, 10, 4, 6);
        for (int r = 0; r < 16; r++) {
            check.due("pay()", r, x.pay());
            check.due("back(" + r + ")", 0, x.back(r));
        }
        check.due("pay() after 16 were taken back", Check.FULL, x.pay());
        check.due("count(1)", 16, x.count(1));
        check.due("count(2)", 16, x.count(2));
        check.due("paid gross", 0, x.paid(0, 0));
    }

    @Sentence("goes through the active persons in order.")
    private static void runOfNoActivePerson() {
        RulePayroll x = Check.payrollOfInputs();
        check.due("pay()", 0, x.pay());
        check.due("count(1)", 1, x.count(1));
        check.due("count(3)", 0, x.count(3));
        check.due("account(0)", 0, x.account(0));
        check.due("again(0)", 0, x.again(0));
        check.due("back(0)", 0, x.back(0));
        check.due("count(2)", 1, x.count(2));
    }

    @Sentence("goes through the active persons in order.")
    private static void runOfEveryPerson() {
        RulePayroll x = Check.payrollOfInputs();
        for (int p = 0; p < 6; p++) {
            x.activate(p, true);
            Check.wages(x, p, 100 + p, 10 * p, 100 - 9 * p);
        }
        check.due("pay()", 0, x.pay());
        for (int p = 0; p < 6; p++) {
            check.due("gross of " + p, 100 + p, x.slip(0, p, 0));
            check.due("tax of " + p, 10 * p, x.slip(0, p, 1));
            check.due("net of " + p, 100 - 9 * p, x.slip(0, p, 2));
        }
        check.due("count(3)", 6, x.count(3));
        check.due("again(0)", 6, x.again(0));
    }

    /** What the other definitions are, a FAULT or not there, is nothing to a run. */
    @Sentence("DEFINITIONS 0, 1 and 2 are the gross, the tax and the net.")
    private static void grossTaxAndNetAreDefinitions() {
        RulePayroll x = new RulePayroll();
        int[] numbers = {50, 20, 30};
        for (int d = 0; d < 3; d++) {
            x.define(d, Check.number(x, numbers[d]));
        }
        x.activate(2, true);
        x.pay();
        int fault = Check.zeroFault(x);
        for (int d = 3; d < 8; d++) {
            x.define(d, fault);
        }
        x.pay();
        for (int r = 0; r < 2; r++) {
            for (int what = 0; what < 3; what++) {
                check.due("slip(" + r + ", 2, " + what + ")", numbers[what], x.slip(r, 2, what));
            }
        }
        for (int d = 0; d < 3; d++) {
            x.define(d, fault);
            check.due("again(1)", 0, x.again(1));
            check.due("held for definition " + d, 3, x.held(1, 2));
            x.define(d, d);
        }
        check.due("again(1)", 1, x.again(1));
    }

    /** Of the gross, the tax and the net each may be an int (0), EMPTY (5) or a FAULT (1 to 4). */
    @Sentence({
        "For each the gross, then the tax, then the net are worked out",
        "the person is HELD if one of them is no int (its reason is the FAULT, 2 if it is EMPTY, "
            + "of the first such)"
    })
    private static void heldByTheFirstThatIsNoInt() {
        for (int sort = 0; sort < 216; sort++) {
            int[] sorts = {sort / 36, sort / 6 % 6, sort % 6};
            RulePayroll x = new RulePayroll();
            int[] samples = {
                Check.number(x, 0), Check.conflictFault(x), Check.missingFault(x), Check.zeroFault(x),
                Check.rangeFault(x), Check.nothing(x)
            };
            int reason = 0;
            for (int d = 2; d >= 0; d--) {
                x.define(d, samples[sorts[d]]);
                reason = sorts[d] == 0 ? reason : sorts[d] == 5 ? 2 : sorts[d];
            }
            x.activate(5, true);
            x.pay();
            check.due("held for sorts " + sort, reason, x.held(0, 5));
            check.due("gross for sorts " + sort, reason == 0 ? 0 : Check.NONE, x.slip(0, 5, 0));
            check.due("net for sorts " + sort, reason == 0 ? 0 : Check.NONE, x.slip(0, 5, 2));
        }
    }

    @Sentence({
        "A definition that is not there is EMPTY.",
        "2 if it is EMPTY"
    })
    private static void heldForWhatIsNotDefined() {
        for (int there = 0; there < 8; there++) {
            RulePayroll x = Check.payrollOfInputs();
            x.activate(1, true);
            for (int d = 0; d < 3; d++) {
                if ((there >> d & 1) == 0) {
                    x.undefine(d);
                }
            }
            x.pay();
            check.due("held with definitions " + there, there == 7 ? 0 : 2, x.held(0, 1));
        }
        RulePayroll y = new RulePayroll();
        y.activate(0, true);
        check.due("pay() without any rule", 0, y.pay());
        check.due("held without any rule", 2, y.held(0, 0));
    }

    private static int reasonFor(int gross, int tax, int net) {
        RulePayroll x = payrollOf(3, gross, tax, net);
        x.pay();
        return x.held(0, 3);
    }

    @Sentence("or if gross - tax, exactly, is not net (reason 5)")
    private static void heldUnlessExactlyEven() {
        check.due("10 - 4 is 6", 0, reasonFor(10, 4, 6));
        check.due("10 - 4 is not 5", 5, reasonFor(10, 4, 5));
        check.due("10 - 4 is not 7", 5, reasonFor(10, 4, 7));
        check.due("0 - 0 is 0", 0, reasonFor(0, 0, 0));
        check.due("the least net", 0, reasonFor(MIN_INT, 0, MIN_INT));
        check.due("the least net, of a tax", 0, reasonFor(-1, MAX_INT, MIN_INT));
        check.due("1 below the least, wrapped", 5, reasonFor(MIN_INT, 1, MAX_INT));
        check.due("2 below the least, wrapped", 5, reasonFor(-2, MAX_INT, MAX_INT));
        check.due("the greatest net", 0, reasonFor(MAX_INT, 0, MAX_INT));
        check.due("the greatest net, of a tax", 0, reasonFor(-1, MIN_INT, MAX_INT));
        check.due("1 above the greatest, wrapped", 5, reasonFor(MAX_INT, -1, MIN_INT));
        check.due("1 above the greatest, of a tax, wrapped", 5, reasonFor(0, MIN_INT, MIN_INT));
        check.due("2 to the 32nd apart", 5, reasonFor(MAX_INT, MIN_INT, -1));
    }

    /** What was PAID is at an end of the ints or 1 before it, and 1 more is to be paid. */
    @Sentence("or if PAID gross or tax would be no int (reason 6).")
    private static void heldIfPaidWouldBeNoInt() {
        for (int what = 0; what < 2; what++) {
            for (int sign = -1; sign <= 1; sign += 2) {
                long end = sign > 0 ? MAX_INT : MIN_INT;
                String which = "PAID " + what + " towards " + sign;
                RulePayroll x = Check.payrollOfInputs();
                Check.bringPaidTo(x, 4, what == 0 ? end - sign : 0, what == 1 ? end - sign : 0);
                Check.wages(x, 4, what == 0 ? sign : 0, what == 1 ? sign : 0, what == 0 ? sign : -sign);
                int first = x.pay();
                check.due(which + " to the end", 0, x.held(first, 4));
                check.due(which + " is at the end", end, x.paid(4, what));
                int second = x.pay();
                check.due(which + " beyond the end", 6, x.held(second, 4));
                check.due(which + " is at the end still", end, x.paid(4, what));
                check.due(which + " has no slip", Check.NONE, x.slip(second, 4, what));
                Check.wages(x, 4, 0, 0, 0);
                check.due(which + " of 0", 1, x.again(second));
                check.due(which + " stays at the end", end, x.paid(4, what));
            }
        }
    }

    @Sentence("or if gross - tax, exactly, is not net (reason 5), or if PAID gross or tax would be no "
        + "int (reason 6). Else")
    private static void reasonsInTheirOrder() {
        RulePayroll x = Check.payrollOfInputs();
        int fault = Check.zeroFault(x);
        Check.bringPaidTo(x, 0, MAX_INT, 0);
        Check.wages(x, 0, 1, 0, 1);
        int run = x.pay();
        check.due("even, and PAID would be no int", 6, x.held(run, 0));
        Check.wages(x, 0, 1, 0, 2);
        x.again(run);
        check.due("not even, and PAID would be no int", 5, x.held(run, 0));
        x.define(2, fault);
        x.again(run);
        check.due("net is a FAULT, and PAID would be no int", 3, x.held(run, 0));
        x.undefine(1);
        x.again(run);
        check.due("tax is EMPTY, net a FAULT", 2, x.held(run, 0));
    }

    @Sentence("Else a SLIP of the run has the gross, tax and net, and PAID grows by gross and tax.")
    private static void whoIsNotHeldHasASlip() {
        RulePayroll x = Check.payrollOfInputs();
        x.activate(4, true);
        int[][] wages = {{100, 30, 70}, {5, 9, -4}, {-20, -7, -13}, {0, 0, 0}};
        long gross = 0;
        long tax = 0;
        for (int r = 0; r < wages.length; r++) {
            Check.wages(x, 4, wages[r][0], wages[r][1], wages[r][2]);
            x.pay();
            gross += wages[r][0];
            tax += wages[r][1];
            check.due("held", 0, x.held(r, 4));
            check.due("paid gross", gross, x.paid(4, 0));
            check.due("paid tax", tax, x.paid(4, 1));
        }
        for (int r = 0; r < wages.length; r++) {
            for (int what = 0; what < 3; what++) {
                check.due("slip(" + r + ", 4, " + what + ")", wages[r][what], x.slip(r, 4, what));
            }
        }
    }

    @Sentence("Else a SLIP of the run has the gross, tax and net, and PAID grows by gross and tax.")
    private static void heldPersonIsNotPaid() {
        RulePayroll x = payrollOf(2, 10, 4, 5);
        x.activate(3, true);
        Check.wages(x, 3, 7, 9, -2);
        x.pay();
        check.due("held", 5, x.held(0, 2));
        check.due("paid gross of who is held", 0, x.paid(2, 0));
        check.due("paid tax of who is held", 0, x.paid(2, 1));
        check.due("paid gross of the next", 7, x.paid(3, 0));
        check.due("paid tax of the next", 9, x.paid(3, 1));
        check.due("wages", 7, x.account(0));
        check.due("tax due", -9, x.account(1));
        check.due("net due", 2, x.account(2));
        check.due("count(3)", 1, x.count(3));
    }

    @Sentence("with what was PAID before this run")
    private static void paidBeforeThisRun() {
        RulePayroll x = new RulePayroll();
        int paidGross = x.node(Check.PAID, 0, 0, 0);
        int gross = x.node(Check.ADD, paidGross, Check.number(x, 1), 0);
        x.define(0, gross);
        x.define(1, paidGross);
        x.define(2, x.node(Check.SUB, gross, paidGross, 0));
        x.activate(5, true);
        x.pay();
        check.due("gross of the first", 1, x.slip(0, 5, 0));
        check.due("tax of the first", 0, x.slip(0, 5, 1));
        x.pay();
        check.due("gross of the second", 2, x.slip(1, 5, 0));
        check.due("tax of the second", 1, x.slip(1, 5, 1));
        check.due("net of the second", 1, x.slip(1, 5, 2));
    }

    /** Rules that would give a FAULT, be uneven, or bring PAID back within the ints: none is looked at. */
    @Sentence("a person whose PAID is no int is HELD with reason 6 before anything is worked out")
    private static void paidThatIsNoIntHoldsBeforeAnything() {
        long[][] beyond = {{MAX_INT + 1L, 0}, {MIN_INT - 1L, 0}, {0, MAX_INT + 1L}, {0, MIN_INT - 1L}};
        for (long[] paid : beyond) {
            RulePayroll x = Check.payrollOfInputs();
            int fault = Check.zeroFault(x);
            Check.bringPaidTo(x, 1, paid[0], paid[1]);
            x.activate(2, true);
            Check.wages(x, 1, -Long.signum(paid[0]), -Long.signum(paid[1]), Long.signum(paid[1] - paid[0]));
            int run = x.pay();
            check.due("held though it would mend PAID", 6, x.held(run, 1));
            check.due("another is paid", 0, x.slip(run, 2, 0));
            Check.wages(x, 1, 1, 1, 1);
            x.again(run);
            check.due("held though not even", 6, x.held(run, 1));
            x.define(0, fault);
            x.again(run);
            check.due("held though gross is a FAULT", 6, x.held(run, 1));
            check.due("another is held for the FAULT", 3, x.held(run, 2));
            x.undefine(0);
            x.again(run);
            check.due("held though gross is EMPTY", 6, x.held(run, 1));
            check.due("paid gross is exact", paid[0], x.paid(1, 0));
            check.due("paid tax is exact", paid[1], x.paid(1, 1));
        }
    }

    @Sentence("(PAID is then exact, perhaps no int")
    private static void paidThatIsAnIntAgain() {
        RulePayroll x = Check.payrollOfInputs();
        Check.bringPaidTo(x, 1, MAX_INT + 1L, 0);
        check.due("paid gross", MAX_INT + 1L, x.paid(1, 0));
        check.due("back of the run of 1", 0, x.back(3));
        check.due("paid gross", MAX_INT, x.paid(1, 0));
        check.due("a value", 1, x.value(1, 0));
        Check.wages(x, 1, 0, 0, 0);
        check.due("pay()", 4, x.pay());
        check.due("not held any more", 0, x.held(4, 1));
        check.due("a slip", 0, x.slip(4, 1, 0));
    }

    @Sentence("There is none, or it is TAKEN BACK: REFUSED.")
    private static void backOfNoRun() {
        RulePayroll x = payrollOf(0, 10, 4, 6);
        check.due("back(0) without runs", Check.REFUSED, x.back(0));
        for (int r = 0; r < 3; r++) {
            x.pay();
        }
        for (int bad : Check.outside(2)) {
            check.due("back(" + bad + ")", Check.REFUSED, x.back(bad));
            check.due("count(2)", 0, x.count(2));
            check.due("paid gross", 30, x.paid(0, 0));
        }
        check.due("back(15)", Check.REFUSED, x.back(15));
        check.due("back(16)", Check.REFUSED, x.back(16));
        check.due("back(2)", 0, x.back(2));
        check.due("back(0)", 0, x.back(0));
        check.due("paid gross", 10, x.paid(0, 0));
    }

    @Sentence("Run r is TAKEN BACK: 0. There is none, or it is TAKEN BACK: REFUSED.")
    private static void backTwice() {
        RulePayroll x = payrollOf(0, 10, 4, 6);
        x.pay();
        x.pay();
        for (int r = 0; r < 2; r++) {
            check.due("back(" + r + ")", 0, x.back(r));
            for (int more = 0; more < 2; more++) {
                check.due("back(" + r + ") once more", Check.REFUSED, x.back(r));
                check.due("count(2)", r + 1, x.count(2));
                check.due("paid gross", 10 - 10 * r, x.paid(0, 0));
                check.due("account(2)", -6 + 6 * r, x.account(2));
            }
        }
    }

    @Sentence({
        "A run that is TAKEN BACK counts no more, and its slips' gross and tax are no more PAID",
        "Run r is TAKEN BACK: 0."
    })
    private static void takenBackCountsNoMore() {
        RulePayroll x = payrollOf(0, 10, 4, 6);
        x.activate(5, true);
        Check.wages(x, 5, -3, 2, -5);
        x.pay();
        Check.wages(x, 0, 100, 40, 60);
        x.pay();
        check.due("back(0)", 0, x.back(0));
        check.due("wages", 97, x.account(0));
        check.due("tax due", -42, x.account(1));
        check.due("net due", -55, x.account(2));
        check.due("paid gross of 0", 100, x.paid(0, 0));
        check.due("paid tax of 0", 40, x.paid(0, 1));
        check.due("paid gross of 5", -3, x.paid(5, 0));
        check.due("paid tax of 5", 2, x.paid(5, 1));
        check.due("count(1)", 2, x.count(1));
        check.due("count(2)", 1, x.count(2));
        check.due("count(3)", 2, x.count(3));
        check.due("the next run's number", 2, x.pay());
    }

    @Sentence("There is none, it is not the last one, or it is TAKEN BACK: REFUSED.")
    private static void againOfNoRun() {
        RulePayroll x = payrollOf(0, 10, 4, 6);
        check.due("again(0) without runs", Check.REFUSED, x.again(0));
        check.due("again(-1) without runs", Check.REFUSED, x.again(-1));
        check.due("count(1)", 0, x.count(1));
        x.pay();
        x.pay();
        for (int bad : Check.outside(1)) {
            check.due("again(" + bad + ")", Check.REFUSED, x.again(bad));
            check.due("count(1)", 2, x.count(1));
            check.due("paid gross", 20, x.paid(0, 0));
        }
        check.due("again(16)", Check.REFUSED, x.again(16));
    }

    @Sentence("There is none, it is not the last one, or it is TAKEN BACK: REFUSED.")
    private static void againOfARunThatIsNotTheLast() {
        RulePayroll x = payrollOf(0, 10, 4, 6);
        for (int last = 0; last < 4; last++) {
            x.pay();
            for (int r = 0; r < last; r++) {
                check.due("again(" + r + ") of " + (last + 1), Check.REFUSED, x.again(r));
            }
            check.due("again(" + last + ")", 1, x.again(last));
        }
        Check.wages(x, 0, 7, 0, 7);
        check.due("again(2) of 4", Check.REFUSED, x.again(2));
        check.due("its slip", 10, x.slip(2, 0, 0));
        check.due("paid gross", 40, x.paid(0, 0));
    }

    @Sentence("There is none, it is not the last one, or it is TAKEN BACK: REFUSED.")
    private static void againOfARunTakenBack() {
        RulePayroll x = payrollOf(0, 10, 4, 6);
        x.pay();
        x.pay();
        x.back(1);
        Check.wages(x, 0, 7, 0, 7);
        check.due("again(1), taken back", Check.REFUSED, x.again(1));
        check.due("again(0), the last that is not", Check.REFUSED, x.again(0));
        check.due("slip of 1", 10, x.slip(1, 0, 0));
        check.due("count(2)", 1, x.count(2));
        check.due("paid gross", 10, x.paid(0, 0));
        check.due("the next run", 2, x.pay());
        x.back(0);
        check.due("again(2), an earlier one taken back", 1, x.again(2));
        check.due("paid gross", 7, x.paid(0, 0));
    }

    @Sentence("Run r, the last one made")
    private static void againOfTheSixteenth() {
        RulePayroll x = payrollOf(0, 10, 4, 6);
        for (int r = 0; r < 16; r++) {
            x.pay();
        }
        Check.wages(x, 0, 7, 0, 7);
        check.due("again(14)", Check.REFUSED, x.again(14));
        check.due("again(16)", Check.REFUSED, x.again(16));
        check.due("again(15)", 1, x.again(15));
        check.due("paid gross", 157, x.paid(0, 0));
        check.due("count(1)", 16, x.count(1));
        check.due("pay()", Check.FULL, x.pay());
        check.due("again(15) twice", 1, x.again(15));
        check.due("back(15)", 0, x.back(15));
        check.due("again(15) taken back", Check.REFUSED, x.again(15));
    }

    @Sentence("made anew in its place, by rules, inputs and active persons as they are now: how many "
        + "SLIPS it has then.")
    private static void againByRulesInputsAndPersonsOfNow() {
        RulePayroll x = payrollOf(0, 10, 4, 6);
        x.activate(1, true);
        x.pay();
        x.activate(1, false);
        check.due("a person less", 1, x.again(0));
        check.due("no slip of who is not active", Check.NONE, x.slip(0, 1, 0));
        x.input(0, 2, 5);
        check.due("an input that holds", 0, x.again(0));
        check.due("held now", 5, x.held(0, 0));
        check.due("no slip of who is held", Check.NONE, x.slip(0, 0, 0));
        check.due("nothing paid", 0, x.paid(0, 0));
        x.define(2, x.node(Check.SUB, 0, 1, 0));
        check.due("a rule that mends it", 1, x.again(0));
        check.due("not held now", 0, x.held(0, 0));
        check.due("net", 6, x.slip(0, 0, 2));
        x.activate(0, false);
        check.due("no person", 0, x.again(0));
        check.due("no slip", Check.NONE, x.slip(0, 0, 1));
        check.due("nothing due", 0, x.account(1));
        for (int p = 0; p < 6; p++) {
            x.activate(p, true);
        }
        check.due("every person", 6, x.again(0));
        check.due("count(1)", 1, x.count(1));
        check.due("count(2)", 0, x.count(2));
        check.due("count(3)", 6, x.count(3));
    }

    /** PAID is at the end of the ints by the run itself: made anew it has all that room again. */
    @Sentence("Run r, the last one made, is TAKEN BACK and made anew in its place")
    private static void againWithoutItsOwnPay() {
        RulePayroll x = payrollOf(0, MAX_INT, 0, MAX_INT);
        x.pay();
        for (int more = 0; more < 3; more++) {
            check.due("again(0)", 1, x.again(0));
            check.due("paid gross", MAX_INT, x.paid(0, 0));
        }
        Check.wages(x, 0, MIN_INT, 0, MIN_INT);
        check.due("again(0)", 1, x.again(0));
        check.due("paid gross", MIN_INT, x.paid(0, 0));
        check.due("account(0)", MIN_INT, x.account(0));
        check.due("account(2)", -(long) MIN_INT, x.account(2));
    }

    /** What is left when the last run is taken back decides, not what was there with it. */
    @Sentence("Run r, the last one made, is TAKEN BACK and made anew in its place")
    private static void againWithPaidThatIsNoInt() {
        RulePayroll x = payrollOf(2, -1, 0, -1);
        int[] wages = {-1, MAX_INT, 1, -1};
        for (int wage : wages) {
            Check.wages(x, 2, wage, 0, wage);
            x.pay();
        }
        x.back(0);
        check.due("paid is an int with the last run", MAX_INT, x.paid(2, 0));
        check.due("made anew without it", 0, x.again(3));
        check.due("PAID is no int", 6, x.held(3, 2));
        check.due("paid gross", MAX_INT + 1L, x.paid(2, 0));
        check.due("no value", Check.NONE, x.value(2, 0));

        RulePayroll y = payrollOf(2, -1, 0, -1);
        y.pay();
        Check.wages(y, 2, MAX_INT, 0, MAX_INT);
        y.pay();
        Check.wages(y, 2, 1, 0, 1);
        y.pay();
        y.back(0);
        check.due("paid is no int with the last run", MAX_INT + 1L, y.paid(2, 0));
        check.due("made anew without it", 0, y.again(2));
        check.due("PAID would be no int", 6, y.held(2, 2));
        check.due("paid gross", MAX_INT, y.paid(2, 0));
        Check.wages(y, 2, 0, 0, 0);
        check.due("made anew of 0", 1, y.again(2));
        check.due("not held any more", 0, y.held(2, 2));
    }
}
