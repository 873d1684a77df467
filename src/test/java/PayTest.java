/** Promise 10: pay, its slips and the reasons why a person is held. */
public final class PayTest {
    private static final Check check = new Check();
    private static final int MIN_INT = Integer.MIN_VALUE;
    private static final int MAX_INT = Integer.MAX_VALUE;

    public static void main(String[] args) {
        numbersAndFull();
        reasonsOfFaults();
        uneven();
        paidNoInt();
        paidNoIntAfterBack();
        paidBeforeTheRun();
        eachPersonAlone();
        check.end();
    }

    private static void numbersAndFull() {
        RulePayroll x = Check.payrollOfInputs();
        x.activate(0, true);
        Check.wages(x, 0, 2, 1, 1);
        for (int r = 0; r < 16; r++) {
            check.due("pay", r, x.pay());
            check.due("count(1)", r + 1, x.count(1));
        }
        check.due("the 17th", Check.FULL, x.pay());
        check.due("paid", 32, x.paid(0, 0));
        check.due("account(0) of 16 runs", 32, x.account(0));
        check.due("count(2) of 16 runs", 0, x.count(2));
        check.due("count(3) of 16 runs", 16, x.count(3));
        check.due("back of the last", 0, x.back(15));
        check.due("the 17th after a back", Check.FULL, x.pay());
        check.due("count(1)", 16, x.count(1));
        check.due("count(2) after a back", 1, x.count(2));
        check.due("paid", 30, x.paid(0, 0));
    }

    /** Definitions of the samples int, EMPTY and the FAULTS: the first that is no int tells the reason. */
    private static void reasonsOfFaults() {
        for (int gross = 0; gross < 6; gross++) {
            for (int tax = 0; tax < 6; tax++) {
                for (int net = 0; net < 6; net++) {
                    RulePayroll x = new RulePayroll();
                    int[] samples = samples(x);
                    define(x, 0, gross, samples);
                    define(x, 1, tax, samples);
                    define(x, 2, net, samples);
                    x.activate(2, true);
                    x.pay();
                    int reason = reasonOf(gross != 0 ? gross : tax != 0 ? tax : net);
                    String what = "definitions " + gross + ", " + tax + ", " + net;
                    check.due(what + " held", reason, x.held(0, 2));
                    check.due(what + " slip", reason == 0 ? 0 : Check.NONE, x.slip(0, 2, 0));
                    check.due(what + " count(3)", reason == 0 ? 1 : 0, x.count(3));
                }
            }
        }
    }

    private static int[] samples(RulePayroll x) {
        int max = Check.number(x, MAX_INT);
        return new int[] {
            Check.number(x, 0), Check.nothing(x), Check.conflictFault(x),
            x.node(Check.NOT, Check.nothing(x), 0, 0), Check.zeroFault(x), x.node(Check.ADD, max, max, 0)
        };
    }

    private static void define(RulePayroll x, int d, int sample, int[] samples) {
        x.define(d, samples[sample]);
        if (sample == 1 && d == 1) {
            x.undefine(d);
        }
    }

    private static int reasonOf(int sample) {
        int[] reasons = {0, 2, 1, 2, 3, 4};
        return reasons[sample];
    }

    private static int heldWith(int gross, int tax, int net) {
        RulePayroll x = Check.payrollOfInputs();
        x.activate(1, true);
        Check.wages(x, 1, gross, tax, net);
        x.pay();
        int reason = x.held(0, 1);
        check.due("gross", reason == 0 ? gross : Check.NONE, x.slip(0, 1, 0));
        check.due("tax", reason == 0 ? tax : Check.NONE, x.slip(0, 1, 1));
        check.due("net", reason == 0 ? net : Check.NONE, x.slip(0, 1, 2));
        check.due("paid gross", reason == 0 ? gross : 0, x.paid(1, 0));
        check.due("paid tax", reason == 0 ? tax : 0, x.paid(1, 1));
        check.due("account(2)", reason == 0 ? -(long) net : 0, x.account(2));
        return reason;
    }

    private static void uneven() {
        check.due("even", 0, heldWith(10, 3, 7));
        check.due("too little", 5, heldWith(10, 3, 6));
        check.due("too much", 5, heldWith(10, 3, 8));
        check.due("below 0", 0, heldWith(-10, 3, -13));
        check.due("tax below 0", 0, heldWith(10, -3, 13));
        check.due("even only if it wrapped", 5, heldWith(MAX_INT, -1, MIN_INT));
        check.due("even only if it wrapped down", 5, heldWith(MIN_INT, 1, MAX_INT));
        check.due("the least net", 0, heldWith(MIN_INT, 0, MIN_INT));
        check.due("the greatest net", 0, heldWith(-1, MIN_INT, MAX_INT));
    }

    private static void paidNoInt() {
        RulePayroll x = Check.payrollOfInputs();
        x.activate(0, true);
        Check.wages(x, 0, MAX_INT, 0, MAX_INT);
        x.pay();
        Check.wages(x, 0, 1, 0, 1);
        x.pay();
        check.due("gross too great", 6, x.held(1, 0));
        Check.wages(x, 0, 1, 0, 2);
        x.pay();
        check.due("uneven comes first", 5, x.held(2, 0));
        Check.wages(x, 0, 0, MIN_INT, 0);
        x.pay();
        check.due("uneven again", 5, x.held(3, 0));
        Check.wages(x, 0, -1, MIN_INT, MAX_INT);
        x.pay();
        check.due("tax as low as it goes", 0, x.held(4, 0));
        Check.wages(x, 0, -1, -1, 0);
        x.pay();
        check.due("tax too low", 6, x.held(5, 0));
        check.due("paid gross", MAX_INT - 1, x.paid(0, 0));
        check.due("paid tax", MIN_INT, x.paid(0, 1));
        Check.wages(x, 0, 1, 0, 1);
        x.pay();
        check.due("up to the greatest int", 0, x.held(6, 0));
        check.due("paid gross", MAX_INT, x.paid(0, 0));
    }

    private static void paidNoIntAfterBack() {
        RulePayroll x = Check.payrollOfInputs();
        int number = Check.number(x, 1);
        x.activate(0, true);
        x.activate(1, true);
        Check.wages(x, 0, -2000000000, 0, -2000000000);
        x.pay();
        Check.wages(x, 0, 2000000000, 0, 2000000000);
        x.pay();
        x.pay();
        x.back(0);
        check.due("paid is exact", 4000000000L, x.paid(0, 0));
        check.due("no value", Check.NONE, x.value(0, number));
        check.due("a value for another", 1, x.value(1, number));
        Check.wages(x, 0, -2000000000, 0, -2000000000);
        x.undefine(0);
        check.due("pay", 3, x.pay());
        check.due("held before anything is worked out", 6, x.held(3, 0));
        check.due("held for what is worked out", 2, x.held(3, 1));
        x.back(1);
        check.due("paid is an int again", 2000000000L, x.paid(0, 0));
        check.due("a value again", 1, x.value(0, number));
        taxNoIntAfterBack();
    }

    private static void taxNoIntAfterBack() {
        RulePayroll x = Check.payrollOfInputs();
        int number = Check.number(x, 1);
        x.activate(5, true);
        Check.wages(x, 5, 0, 2000000000, -2000000000);
        x.pay();
        Check.wages(x, 5, 0, -2000000000, 2000000000);
        x.pay();
        x.pay();
        x.back(0);
        check.due("tax is exact", -4000000000L, x.paid(5, 1));
        check.due("no value", Check.NONE, x.value(5, number));
        Check.wages(x, 5, 0, 2000000000, -2000000000);
        x.pay();
        check.due("held though it would mend", 6, x.held(3, 5));
        check.due("again of a held run", 0, x.again(3));
        check.due("held still", 6, x.held(3, 5));
    }

    /** Gross is what was paid so far and 5 more: the run's own slip must not count for its tax. */
    private static void paidBeforeTheRun() {
        RulePayroll x = new RulePayroll();
        int paidGross = x.node(Check.PAID, 0, 0, 0);
        int gross = x.node(Check.ADD, paidGross, Check.number(x, 5), 0);
        x.define(0, gross);
        x.define(1, paidGross);
        x.define(2, Check.number(x, 5));
        x.activate(0, true);
        long paid = 0;
        for (int r = 0; r < 4; r++) {
            x.pay();
            check.due("gross of run " + r, paid + 5, x.slip(r, 0, 0));
            check.due("tax of run " + r, paid, x.slip(r, 0, 1));
            paid += paid + 5;
            check.due("paid after run " + r, paid, x.paid(0, 0));
        }
    }

    private static void eachPersonAlone() {
        RulePayroll x = Check.payrollOfInputs();
        for (int p = 0; p < 6; p++) {
            x.activate(p, p != 4);
            Check.wages(x, p, 10 * p + 9, p, p == 2 ? 0 : 9 * p + 9);
        }
        x.pay();
        for (int p = 0; p < 6; p++) {
            boolean slip = p != 4 && p != 2;
            check.due("slip of " + p, slip ? 10 * p + 9 : Check.NONE, x.slip(0, p, 0));
            check.due("held " + p, p == 2 ? 5 : 0, x.held(0, p));
            check.due("paid " + p, slip ? 10 * p + 9 : 0, x.paid(p, 0));
        }
        check.due("count(3)", 4, x.count(3));
    }
}
