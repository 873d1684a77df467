/** Promises 1 and 13 to 17 and the term ACCOUNTS: each sentence, at its edges too. */
public final class AskEdgeTest {
    private static final Check check = new Check();
    private static final int MAX_INT = Check.MAX_INT;
    private static final int MIN_INT = Check.MIN_INT;

    public static void main(String[] args) {
        check.run(AskEdgeTest.class);
        check.end();
    }

    /** Two runs: persons 0 and 5 have slips in both, 1 is held in both, the others are not active. */
    private static RulePayroll twoRuns() {
        RulePayroll x = Check.payrollOfInputs();
        x.activate(0, true);
        x.activate(1, true);
        x.activate(5, true);
        Check.wages(x, 1, 1, 1, 1);
        for (int r = 0; r < 2; r++) {
            Check.wages(x, 0, 20 + r, 5, 15 + r);
            Check.wages(x, 5, 30 + r, 6, 24 + r);
            x.pay();
        }
        return x;
    }

    @Sentence("No nodes, definitions, steps or runs.")
    private static void nothingInANewObject() {
        RulePayroll x = new RulePayroll();
        for (int what = 0; what < 8; what++) {
            check.due("count(" + what + ")", 0, x.count(what));
        }
        for (int p = 0; p < 6; p++) {
            check.due("value(" + p + ", 0)", Check.NONE, x.value(p, 0));
            check.due("slip(0, " + p + ", 0)", Check.NONE, x.slip(0, p, 0));
            check.due("held(0, " + p + ")", Check.REFUSED, x.held(0, p));
            check.due("paid(" + p + ", 0)", 0, x.paid(p, 0));
            check.due("paid(" + p + ", 1)", 0, x.paid(p, 1));
        }
        for (int a = 0; a < 3; a++) {
            check.due("account(" + a + ")", 0, x.account(a));
        }
        check.due("define(7, 0)", Check.REFUSED, x.define(7, 0));
        check.due("clear(0)", 0, x.clear(0));
        check.due("clear(1)", 0, x.clear(1));
        check.due("back(0)", Check.REFUSED, x.back(0));
        check.due("again(0)", Check.REFUSED, x.again(0));
        check.due("the first run", 0, x.pay());
        check.due("the first node", 0, Check.number(x, 1));
    }

    @Sentence("No nodes, definitions, steps or runs.")
    private static void objectsHaveNothingInCommon() {
        RulePayroll used = twoRuns();
        used.step(0, 10, 10);
        used.step(1, 10, 10);
        nothingInANewObject();
        check.due("nodes of the other", 3, used.count(0));
        check.due("runs of the other", 2, used.count(1));
        check.due("wages of the other", 102, used.account(0));
        check.due("an input of the other", 21, used.value(0, 0));
    }

    @Sentence("NONE if it has none, or there is no such")
    private static void slipOfNoRun() {
        RulePayroll x = twoRuns();
        for (int bad : Check.outside(1)) {
            for (int what = 0; what < 3; what++) {
                check.due("slip(" + bad + ", 0, " + what + ")", Check.NONE, x.slip(bad, 0, what));
                check.due("slip(" + bad + ", 5, " + what + ")", Check.NONE, x.slip(bad, 5, what));
            }
        }
        check.due("slip(15, 0, 0)", Check.NONE, x.slip(15, 0, 0));
        check.due("slip(16, 0, 0)", Check.NONE, x.slip(16, 0, 0));
        check.due("the first", 20, x.slip(0, 0, 0));
        check.due("the last", 25, x.slip(1, 5, 2));
    }

    @Sentence("NONE if it has none, or there is no such")
    private static void slipOfNoPerson() {
        RulePayroll x = twoRuns();
        for (int bad : Check.outside(5)) {
            for (int r = 0; r < 2; r++) {
                check.due("slip(" + r + ", " + bad + ", 0)", Check.NONE, x.slip(r, bad, 0));
                check.due("slip(" + r + ", " + bad + ", 2)", Check.NONE, x.slip(r, bad, 2));
            }
        }
    }

    @Sentence("NONE if it has none, or there is no such")
    private static void slipOfNoAmount() {
        RulePayroll x = twoRuns();
        for (int bad : Check.outside(2)) {
            check.due("slip(0, 0, " + bad + ")", Check.NONE, x.slip(0, 0, bad));
            check.due("slip(1, 5, " + bad + ")", Check.NONE, x.slip(1, 5, bad));
        }
        check.due("gross", 20, x.slip(0, 0, 0));
        check.due("tax", 5, x.slip(0, 0, 1));
        check.due("net", 15, x.slip(0, 0, 2));
    }

    @Sentence("NONE if it has none, or there is no such")
    private static void slipOfWhoHasNone() {
        RulePayroll x = twoRuns();
        for (int r = 0; r < 2; r++) {
            for (int what = 0; what < 3; what++) {
                check.due("of who is held", Check.NONE, x.slip(r, 1, what));
                check.due("of who is not active", Check.NONE, x.slip(r, 2, what));
            }
        }
    }

    @Sentence("The gross (what 0), tax (1) or net (2) of person p's SLIP in run r")
    private static void slipsOfTwoRuns() {
        RulePayroll x = twoRuns();
        int[][][] slips = {{{20, 5, 15}, {30, 6, 24}}, {{21, 5, 16}, {31, 6, 25}}};
        for (int r = 0; r < 2; r++) {
            for (int what = 0; what < 3; what++) {
                check.due("slip(" + r + ", 0, " + what + ")", slips[r][0][what], x.slip(r, 0, what));
                check.due("slip(" + r + ", 5, " + what + ")", slips[r][1][what], x.slip(r, 5, what));
            }
        }
    }

    @Sentence("The gross (what 0), tax (1) or net (2) of person p's SLIP in run r")
    private static void slipAtTheEdgesOfTheInts() {
        int[][] rows = {
            {MAX_INT, MAX_INT, 0}, {MIN_INT, MIN_INT, 0}, {MAX_INT, 0, MAX_INT}, {MIN_INT, 0, MIN_INT},
            {-1, MAX_INT, MIN_INT}, {-1, MIN_INT, MAX_INT}, {0, 0, 0}
        };
        for (int[] row : rows) {
            RulePayroll x = Check.payrollOfInputs();
            x.activate(3, true);
            Check.wages(x, 3, row[0], row[1], row[2]);
            x.pay();
            for (int what = 0; what < 3; what++) {
                check.due("slip(0, 3, " + what + ")", row[what], x.slip(0, 3, what));
                check.due("account(" + what + ")", what == 0 ? row[0] : -(long) row[what], x.account(what));
            }
        }
    }

    @Sentence("a run TAKEN BACK keeps its SLIPS.")
    private static void slipsOfARunTakenBack() {
        RulePayroll x = twoRuns();
        x.back(1);
        x.activate(0, false);
        Check.wages(x, 5, 1, 1, 0);
        x.pay();
        check.due("gross of 0", 21, x.slip(1, 0, 0));
        check.due("tax of 0", 5, x.slip(1, 0, 1));
        check.due("net of 0", 16, x.slip(1, 0, 2));
        check.due("net of 5", 25, x.slip(1, 5, 2));
        check.due("none of who was held", Check.NONE, x.slip(1, 1, 0));
        check.due("none of who was not active", Check.NONE, x.slip(1, 2, 0));
    }

    @Sentence("REFUSED if there is no such run or person.")
    private static void heldOfNoRunOrPerson() {
        RulePayroll x = twoRuns();
        for (int bad : Check.outside(1)) {
            check.due("held(" + bad + ", 0)", Check.REFUSED, x.held(bad, 0));
            check.due("held(" + bad + ", 1)", Check.REFUSED, x.held(bad, 1));
        }
        check.due("held(15, 0)", Check.REFUSED, x.held(15, 0));
        check.due("held(16, 0)", Check.REFUSED, x.held(16, 0));
        for (int bad : Check.outside(5)) {
            check.due("held(0, " + bad + ")", Check.REFUSED, x.held(0, bad));
            check.due("held(1, " + bad + ")", Check.REFUSED, x.held(1, bad));
        }
    }

    @Sentence("Why person p was HELD in run r: its reason; 0 if it was not, or not active")
    private static void heldOfWhoWasNot() {
        RulePayroll x = twoRuns();
        for (int r = 0; r < 2; r++) {
            int[] reasons = {0, 5, 0, 0, 0, 0};
            for (int p = 0; p < 6; p++) {
                check.due("held(" + r + ", " + p + ")", reasons[p], x.held(r, p));
            }
        }
        x.activate(1, false);
        x.pay();
        check.due("of who is not active any more", 0, x.held(2, 1));
        check.due("the reason from before", 5, x.held(1, 1));
    }

    @Sentence("Why person p was HELD in run r: its reason")
    private static void heldOfARunTakenBack() {
        RulePayroll x = twoRuns();
        x.back(0);
        check.due("of who was held", 5, x.held(0, 1));
        check.due("of who was not", 0, x.held(0, 0));
        check.due("of who was not active", 0, x.held(0, 4));
    }

    @Sentence("What account a 0 .. 2 holds; NONE for another.")
    private static void accountOutOfRange() {
        RulePayroll x = twoRuns();
        for (int bad : Check.outside(2)) {
            check.due("account(" + bad + ")", Check.NONE, x.account(bad));
        }
        check.due("account(0)", 102, x.account(0));
        check.due("account(1)", -22, x.account(1));
        check.due("account(2)", -80, x.account(2));
    }

    @Sentence("ACCOUNTS (exact): 0 wages: plus all gross of slips; 1 tax due: minus all tax; 2 net due: "
        + "minus all net.")
    private static void accountsAreExact() {
        RulePayroll x = Check.payrollOfInputs();
        x.activate(0, true);
        x.activate(1, true);
        Check.wages(x, 0, MAX_INT, 0, MAX_INT);
        Check.wages(x, 1, 1, 0, 1);
        x.pay();
        check.due("1 above the greatest int", MAX_INT + 1L, x.account(0));
        check.due("1 below its negative", -MAX_INT - 1L, x.account(2));
        Check.wages(x, 0, MIN_INT, 0, MIN_INT);
        Check.wages(x, 1, -1, 0, -1);
        check.due("again(0)", 2, x.again(0));
        check.due("1 below the least int", MIN_INT - 1L, x.account(0));
        check.due("tax due", 0, x.account(1));
        check.due("2 above the greatest int", MAX_INT + 2L, x.account(2));
        x.back(0);
        for (int a = 0; a < 3; a++) {
            check.due("account(" + a + ") when all is taken back", 0, x.account(a));
        }
    }

    /** All persons are paid and charged in turn, and what they were charged is taken back. */
    @Sentence("ACCOUNTS (exact)")
    private static void accountsBeyondTheInts() {
        RulePayroll x = Check.payrollOfInputs();
        for (int p = 0; p < 6; p++) {
            x.activate(p, true);
        }
        for (int r = 0; r < 16; r++) {
            for (int p = 0; p < 6; p++) {
                x.input(p, 0, r % 2 == 0 ? MAX_INT : -MAX_INT);
                x.input(p, 1, r % 2 == 0 ? MAX_INT : -MAX_INT);
            }
            x.pay();
        }
        check.due("count(3)", 96, x.count(3));
        check.due("wages", 0, x.account(0));
        for (int r = 1; r < 16; r += 2) {
            x.back(r);
        }
        check.due("wages", 48L * MAX_INT, x.account(0));
        check.due("tax due", -48L * MAX_INT, x.account(1));
        check.due("net due", 0, x.account(2));
        check.due("paid gross", 8L * MAX_INT, x.paid(5, 0));
        check.due("paid tax", 8L * MAX_INT, x.paid(0, 1));
        check.due("count(3)", 48, x.count(3));
    }

    @Sentence("What was PAID to person p 0 .. 5 so far: the gross (what 0) or tax (1), exactly; NONE for others.")
    private static void paidOutOfRange() {
        RulePayroll x = twoRuns();
        for (int bad : Check.outside(5)) {
            check.due("paid(" + bad + ", 0)", Check.NONE, x.paid(bad, 0));
            check.due("paid(" + bad + ", 1)", Check.NONE, x.paid(bad, 1));
        }
        for (int bad : Check.outside(1)) {
            check.due("paid(0, " + bad + ")", Check.NONE, x.paid(0, bad));
            check.due("paid(5, " + bad + ")", Check.NONE, x.paid(5, bad));
        }
        check.due("paid(0, 0)", 41, x.paid(0, 0));
        check.due("paid(0, 1)", 10, x.paid(0, 1));
        check.due("paid(5, 0)", 61, x.paid(5, 0));
        check.due("paid(5, 1)", 12, x.paid(5, 1));
        check.due("paid(1, 0) of who is held", 0, x.paid(1, 0));
        check.due("paid(2, 0) of who is not active", 0, x.paid(2, 0));
    }

    @Sentence("the gross (what 0) or tax (1), exactly")
    private static void paidIsExact() {
        long[] ends = {MAX_INT, MAX_INT + 1L, MIN_INT, MIN_INT - 1L};
        for (long end : ends) {
            RulePayroll x = Check.payrollOfInputs();
            Check.bringPaidTo(x, 5, end, 0);
            check.due("paid(5, 0)", end, x.paid(5, 0));
            check.due("paid(5, 1)", 0, x.paid(5, 1));
            RulePayroll y = Check.payrollOfInputs();
            Check.bringPaidTo(y, 0, 0, end);
            check.due("paid(0, 0)", 0, y.paid(0, 0));
            check.due("paid(0, 1)", end, y.paid(0, 1));
        }
    }

    @Sentence("0: nodes; 1: runs made; 2: runs TAKEN BACK; 3: SLIPS of all runs that are not; 4: persons "
        + "active; 5, 6: steps of table what - 5; 7: bit d set for each definition d.")
    private static void countsThatAllDiffer() {
        RulePayroll x = twoRuns();
        for (int run = 2; run < 10; run++) {
            x.pay();
        }
        x.back(0);
        x.back(9);
        x.activate(5, false);
        x.activate(2, true);
        x.activate(3, true);
        for (int s = 1; s <= 5; s++) {
            x.step(0, s, 0);
        }
        x.step(1, 1, 0);
        x.define(6, 0);
        int[] counts = {3, 10, 2, 16, 4, 5, 1, 64 + 7};
        for (int what = 0; what < 8; what++) {
            check.due("count(" + what + ")", counts[what], x.count(what));
        }
    }

    @Sentence("Else REFUSED.")
    private static void countOutOfRange() {
        RulePayroll x = twoRuns();
        for (int bad : Check.outside(7)) {
            check.due("count(" + bad + ")", Check.REFUSED, x.count(bad));
        }
        int[] counts = {3, 2, 0, 4, 3, 0, 0, 7};
        for (int what = 0; what < 8; what++) {
            check.due("count(" + what + ")", counts[what], x.count(what));
        }
    }

    @Sentence("0: nodes; 1: runs made; 2: runs TAKEN BACK; 3: SLIPS of all runs that are not; 4: persons "
        + "active; 5, 6: steps of table what - 5")
    private static void countsWhenAllIsFull() {
        RulePayroll x = Check.payrollOfInputs();
        for (int n = 3; n < 70; n++) {
            Check.nothing(x);
        }
        for (int s = 1; s <= 5; s++) {
            x.step(0, s, 0);
            x.step(1, s, 0);
        }
        for (int p = 0; p < 6; p++) {
            x.activate(p, true);
        }
        for (int d = 3; d < 8; d++) {
            x.define(d, 69);
        }
        for (int r = 0; r < 16; r++) {
            x.pay();
        }
        int[] counts = {70, 16, 0, 96, 6, 5, 5, 255};
        for (int what = 0; what < 8; what++) {
            check.due("count(" + what + ")", counts[what], x.count(what));
        }
        for (int r = 0; r < 16; r++) {
            x.back(15 - r);
            check.due("count(1)", 16, x.count(1));
            check.due("count(2)", r + 1, x.count(2));
            check.due("count(3)", 90 - 6 * r, x.count(3));
        }
    }

    /** Run r has slips of the persons below r, and of none else; the sums follow run by run. */
    @Sentence({
        "3: SLIPS of all runs that are not",
        "0 wages: plus all gross of slips; 1 tax due: minus all tax; 2 net due: minus all net."
    })
    private static void countOfSlipsRunByRun() {
        RulePayroll x = Check.payrollOfInputs();
        int slips = 0;
        for (int r = 0; r <= 6; r++) {
            if (r > 0) {
                x.activate(r - 1, true);
                Check.wages(x, r - 1, 10, 3, 7);
            }
            x.pay();
            slips += r;
            check.due("count(3) after run " + r, slips, x.count(3));
            check.due("account(0) after run " + r, 10 * slips, x.account(0));
            check.due("account(1) after run " + r, -3 * slips, x.account(1));
        }
        for (int r = 6; r >= 0; r--) {
            x.back(r);
            slips -= r;
            check.due("count(3) without run " + r, slips, x.count(3));
            check.due("account(0) without run " + r, 10 * slips, x.account(0));
            check.due("account(2) without run " + r, -7 * slips, x.account(2));
        }
    }

    @Sentence("7: bit d set for each definition d.")
    private static void countOfDefinitions() {
        for (int d = 0; d < 8; d++) {
            RulePayroll x = new RulePayroll();
            int n = Check.nothing(x);
            x.define(d, n);
            check.due("count(7) of definition " + d, 1 << d, x.count(7));
            for (int other = 0; other < 8; other++) {
                x.define(other, n);
            }
            check.due("count(7) of all", 255, x.count(7));
            x.undefine(d);
            check.due("count(7) without " + d, 255 - (1 << d), x.count(7));
        }
    }
}
