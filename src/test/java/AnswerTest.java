/** Promises 13 to 17: slip, held, account, paid and count. */
public final class AnswerTest {
    private static final Check check = new Check();
    private static final int[] WILD = {Integer.MIN_VALUE, -2, -1, 70, 100, Integer.MAX_VALUE};

    public static void main(String[] args) {
        slipsAndHeld();
        outOfRange();
        exactAccounts();
        exactPaid();
        counts();
        check.end();
    }

    /** Runs 0, 1 and 2, in which person p has (r + 1) * (p + 1) hundreds; person 5 is held in run 1. */
    private static RulePayroll threeRuns() {
        RulePayroll x = Check.payrollOfInputs();
        for (int r = 0; r < 3; r++) {
            for (int p = 1; p < 6; p++) {
                int unit = (r + 1) * (p + 1);
                x.activate(p, true);
                Check.wages(x, p, 100 * unit, 30 * unit, p == 5 && r == 1 ? 1 : 70 * unit);
            }
            x.pay();
        }
        return x;
    }

    private static void slipsAndHeld() {
        RulePayroll x = threeRuns();
        x.back(2);
        for (int r = 0; r < 3; r++) {
            for (int p = 0; p < 6; p++) {
                boolean held = p == 5 && r == 1;
                boolean slip = p > 0 && !held;
                int unit = (r + 1) * (p + 1);
                String where = " of " + p + " in run " + r;
                check.due("gross" + where, slip ? 100 * unit : Check.NONE, x.slip(r, p, 0));
                check.due("tax" + where, slip ? 30 * unit : Check.NONE, x.slip(r, p, 1));
                check.due("net" + where, slip ? 70 * unit : Check.NONE, x.slip(r, p, 2));
                check.due("held" + where, held ? 5 : 0, x.held(r, p));
            }
        }
    }

    private static void outOfRange() {
        RulePayroll x = threeRuns();
        for (int wild : WILD) {
            check.due("slip of run " + wild, Check.NONE, x.slip(wild, 1, 0));
            check.due("slip of person " + wild, Check.NONE, x.slip(0, wild, 0));
            check.due("slip of what " + wild, Check.NONE, x.slip(0, 1, wild));
            check.due("held in run " + wild, Check.REFUSED, x.held(wild, 1));
            check.due("held person " + wild, Check.REFUSED, x.held(0, wild));
            check.due("account " + wild, Check.NONE, x.account(wild));
            check.due("paid person " + wild, Check.NONE, x.paid(wild, 0));
            check.due("paid what " + wild, Check.NONE, x.paid(1, wild));
            check.due("count of " + wild, Check.REFUSED, x.count(wild));
        }
        check.due("slip of run 3", Check.NONE, x.slip(3, 1, 0));
        check.due("slip of person 6", Check.NONE, x.slip(0, 6, 0));
        check.due("slip of person -1 in run 1", Check.NONE, x.slip(1, -1, 0));
        check.due("slip of what 3", Check.NONE, x.slip(0, 1, 3));
        check.due("held in run 3", Check.REFUSED, x.held(3, 1));
        check.due("held person 6", Check.REFUSED, x.held(0, 6));
        check.due("account 3", Check.NONE, x.account(3));
        check.due("paid person 6", Check.NONE, x.paid(6, 0));
        check.due("paid what 2", Check.NONE, x.paid(1, 2));
        check.due("count of 8", Check.REFUSED, x.count(8));
    }

    private static void exactAccounts() {
        RulePayroll x = threeRuns();
        check.due("account(0)", 100 * 108, x.account(0));
        check.due("account(1)", -30 * 108, x.account(1));
        check.due("account(2)", -70 * 108, x.account(2));
        check.due("the accounts are even", 0, x.account(0) + x.account(1) + x.account(2));

        RulePayroll y = Check.payrollOfInputs();
        for (int p = 0; p < 6; p++) {
            y.activate(p, true);
            Check.wages(y, p, Integer.MAX_VALUE, Integer.MAX_VALUE, 0);
        }
        y.pay();
        check.due("wages are no int", 6L * Integer.MAX_VALUE, y.account(0));
        check.due("tax due is no int", -6L * Integer.MAX_VALUE, y.account(1));
        check.due("net due", 0, y.account(2));
        for (int p = 0; p < 6; p++) {
            Check.wages(y, p, 0, Integer.MIN_VALUE + 1, Integer.MAX_VALUE);
        }
        y.pay();
        check.due("tax due after", 0, y.account(1));
        check.due("net due after", -6L * Integer.MAX_VALUE, y.account(2));
    }

    private static void exactPaid() {
        RulePayroll x = threeRuns();
        check.due("gross of a held person", 2400, x.paid(5, 0));
        check.due("tax of a held person", 720, x.paid(5, 1));
        check.due("gross", 1200, x.paid(1, 0));
        check.due("tax", 360, x.paid(1, 1));
        check.due("nothing", 0, x.paid(0, 0));
        x.activate(1, false);
        check.due("of who is not active", 1200, x.paid(1, 0));
    }

    private static void counts() {
        RulePayroll x = threeRuns();
        x.step(0, 1, 1);
        x.step(1, 1, 1);
        x.step(1, 2, 1);
        x.define(7, 0);
        int[] before = {3, 3, 0, 14, 5, 1, 2, 128 + 7};
        for (int what = 0; what < 8; what++) {
            check.due("count(" + what + ")", before[what], x.count(what));
        }
        x.back(1);
        x.undefine(1);
        x.clear(1);
        x.activate(2, false);
        Check.nothing(x);
        int[] after = {4, 3, 1, 10, 4, 1, 0, 128 + 5};
        for (int what = 0; what < 8; what++) {
            check.due("count(" + what + ") after", after[what], x.count(what));
        }
    }
}
