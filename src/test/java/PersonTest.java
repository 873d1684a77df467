/** Promises 7 and 8: input and activate. */
public final class PersonTest {
    private static final Check check = new Check();

    public static void main(String[] args) {
        inputs();
        activity();
        wrongNumbers();
        check.end();
    }

    private static void inputs() {
        RulePayroll x = new RulePayroll();
        for (int i = 0; i < 8; i++) {
            Check.inputNode(x, i);
        }
        for (int p = 0; p < 6; p++) {
            for (int i = 0; i < 8; i++) {
                check.due("input(" + p + ", " + i + ")", 0, x.input(p, i, 100 * p + i + 1));
            }
        }
        for (int p = 0; p < 6; p++) {
            for (int i = 0; i < 8; i++) {
                check.due("input " + i + " of " + p, 100 * p + i + 1, x.value(p, i));
            }
        }
        x.input(5, 7, Integer.MIN_VALUE);
        check.due("the least int", Integer.MIN_VALUE, x.value(5, 7));
        x.input(5, 7, Integer.MAX_VALUE);
        check.due("the greatest int", Integer.MAX_VALUE, x.value(5, 7));
    }

    private static void activity() {
        RulePayroll x = Check.payrollOfInputs();
        x.pay();
        for (int p = 0; p < 6; p++) {
            check.due("no slip of " + p, Check.NONE, x.slip(0, p, 0));
            check.due("activate " + p, 0, x.activate(p, true));
            check.due("activate " + p + " twice", 0, x.activate(p, true));
            check.due("count(4)", p + 1, x.count(4));
        }
        x.pay();
        for (int p = 0; p < 6; p++) {
            check.due("slip of " + p, 0, x.slip(1, p, 0));
        }
        check.due("a person goes", 0, x.activate(3, false));
        check.due("a person goes twice", 0, x.activate(3, false));
        check.due("count(4)", 5, x.count(4));
        x.pay();
        check.due("no slip any more", Check.NONE, x.slip(2, 3, 0));
        check.due("nor held", 0, x.held(2, 3));
        check.due("the slip from before", 0, x.slip(1, 3, 0));
        check.due("another's slip", 0, x.slip(2, 4, 0));
    }

    private static void wrongNumbers() {
        RulePayroll x = new RulePayroll();
        Check.inputNode(x, 0);
        Check.inputNode(x, 7);
        int[] badPersons = {-1, 6, Integer.MAX_VALUE, Integer.MIN_VALUE};
        for (int bad : badPersons) {
            check.due("input of person " + bad, Check.REFUSED, x.input(bad, 0, 9));
            check.due("activate " + bad, Check.REFUSED, x.activate(bad, true));
            check.due("activate off " + bad, Check.REFUSED, x.activate(bad, false));
        }
        int[] badInputs = {-1, 8, Integer.MAX_VALUE, Integer.MIN_VALUE};
        for (int bad : badInputs) {
            check.due("input " + bad, Check.REFUSED, x.input(0, bad, 9));
            check.due("input " + bad + " of 5", Check.REFUSED, x.input(5, bad, 9));
        }
        for (int p = 0; p < 6; p++) {
            check.due("unchanged", 0, x.value(p, 0));
            check.due("unchanged", 0, x.value(p, 1));
        }
        check.due("count(4)", 0, x.count(4));
    }
}
