/** Promises 11 and 12: back and again. */
public final class BackAndAgainTest {
    private static final Check check = new Check();

    public static void main(String[] args) {
        takingBack();
        doingAnew();
        doingAnewWithWhatWasPaidBefore();
        refusedAgain();
        againWhenFull();
        check.end();
    }

    private static RulePayroll threeRuns() {
        RulePayroll x = Check.payrollOfInputs();
        x.activate(0, true);
        x.activate(1, true);
        for (int r = 0; r < 3; r++) {
            Check.wages(x, 0, 100 + r, 10, 90 + r);
            Check.wages(x, 1, 1000, 200, r == 1 ? 0 : 800);
            x.pay();
        }
        return x;
    }

    private static void takingBack() {
        RulePayroll x = threeRuns();
        int[] bads = {-1, 3, 15, 16, Integer.MAX_VALUE, Integer.MIN_VALUE};
        for (int bad : bads) {
            check.due("back(" + bad + ")", Check.REFUSED, x.back(bad));
        }
        check.due("account(0)", 2303, x.account(0));
        check.due("back(1)", 0, x.back(1));
        check.due("back(1) twice", Check.REFUSED, x.back(1));
        check.due("count(2)", 1, x.count(2));
        check.due("count(3)", 4, x.count(3));
        check.due("paid(0, 0)", 202, x.paid(0, 0));
        check.due("paid(0, 1)", 20, x.paid(0, 1));
        check.due("paid(1, 0)", 2000, x.paid(1, 0));
        check.due("account(0)", 2202, x.account(0));
        check.due("account(1)", -420, x.account(1));
        check.due("account(2)", -1782, x.account(2));
        check.due("the slip is kept", 101, x.slip(1, 0, 0));
        check.due("the reason is kept", 5, x.held(1, 1));
        check.due("no slip of who was held", Check.NONE, x.slip(1, 1, 0));
        check.due("back(2)", 0, x.back(2));
        check.due("back(0)", 0, x.back(0));
        check.due("nothing paid", 0, x.paid(1, 1));
        check.due("nothing in account 2", 0, x.account(2));
        check.due("count(1)", 3, x.count(1));
        check.due("count(2)", 3, x.count(2));
        check.due("the next run's number", 3, x.pay());
        check.due("paid by the next run", 102, x.paid(0, 0));
    }

    private static void doingAnew() {
        RulePayroll x = threeRuns();
        x.activate(0, false);
        x.activate(2, true);
        x.activate(3, true);
        Check.wages(x, 1, 1000, 200, 0);
        Check.wages(x, 2, 7, 3, 4);
        check.due("again(2)", 2, x.again(2));
        check.due("who left has no slip", Check.NONE, x.slip(2, 0, 0));
        check.due("nor tax", Check.NONE, x.slip(2, 0, 1));
        check.due("nor net", Check.NONE, x.slip(2, 0, 2));
        check.due("who is held now", 5, x.held(2, 1));
        check.due("has no slip", Check.NONE, x.slip(2, 1, 2));
        check.due("who came has one", 4, x.slip(2, 2, 2));
        check.due("of zeros", 0, x.slip(2, 3, 0));
        check.due("an earlier slip stays", 101, x.slip(1, 0, 0));
        check.due("paid(0, 0)", 201, x.paid(0, 0));
        check.due("paid(1, 0)", 1000, x.paid(1, 0));
        check.due("paid(2, 1)", 3, x.paid(2, 1));
        check.due("account(0)", 1208, x.account(0));
        check.due("account(1)", -223, x.account(1));
        check.due("account(2)", -985, x.account(2));
        check.due("count(1)", 3, x.count(1));
        check.due("count(2)", 0, x.count(2));
        check.due("count(3)", 5, x.count(3));
        x.activate(1, false);
        check.due("again(2) once more", 2, x.again(2));
        check.due("not held any more", 0, x.held(2, 1));
        x.activate(1, true);
        Check.wages(x, 1, 1000, 200, 800);
        check.due("again(2) a third time", 3, x.again(2));
        check.due("held no more but paid", 0, x.held(2, 1));
        check.due("slip anew", 800, x.slip(2, 1, 2));
    }

    /** Doubling the PAID gross: done anew it must see what was paid before the run. */
    private static void doingAnewWithWhatWasPaidBefore() {
        RulePayroll x = new RulePayroll();
        int gross = x.node(Check.ADD, x.node(Check.PAID, 0, 0, 0), Check.inputNode(x, 0), 0);
        x.define(0, gross);
        x.define(1, Check.number(x, 0));
        x.define(2, gross);
        x.activate(0, true);
        x.input(0, 0, 3);
        x.pay();
        x.pay();
        check.due("paid", 9, x.paid(0, 0));
        check.due("again", 1, x.again(1));
        check.due("paid as before", 9, x.paid(0, 0));
        x.input(0, 0, 1);
        check.due("again", 1, x.again(1));
        check.due("gross anew", 4, x.slip(1, 0, 0));
        check.due("paid anew", 7, x.paid(0, 0));
    }

    private static void refusedAgain() {
        RulePayroll x = threeRuns();
        int[] bads = {-1, 0, 1, 3, 16, Integer.MAX_VALUE, Integer.MIN_VALUE};
        for (int bad : bads) {
            check.due("again(" + bad + ")", Check.REFUSED, x.again(bad));
        }
        check.due("back(2)", 0, x.back(2));
        check.due("again of what is taken back", Check.REFUSED, x.again(2));
        check.due("again of the last that stands", Check.REFUSED, x.again(1));
        check.due("paid(0, 0)", 201, x.paid(0, 0));
        check.due("count(2)", 1, x.count(2));
        x.pay();
        check.due("again of the new last", 2, x.again(3));
        check.due("back of it", 0, x.back(3));
        check.due("paid after", 201, x.paid(0, 0));
    }

    private static void againWhenFull() {
        RulePayroll x = Check.payrollOfInputs();
        for (int r = 0; r < 16; r++) {
            x.pay();
        }
        for (int p = 0; p < 6; p++) {
            x.activate(p, true);
        }
        check.due("again(15)", 6, x.again(15));
        check.due("count(3)", 6, x.count(3));
        check.due("pay", Check.FULL, x.pay());
    }
}
