/** Promise 1, and that objects have nothing in common. */
public final class NewObjectTest {
    public static void main(String[] args) {
        Check check = new Check();
        RulePayroll used = Check.payrollOfInputs();
        used.step(0, 10, 10);
        used.step(1, 10, 10);
        used.activate(0, true);
        Check.wages(used, 0, 5, 1, 4);
        used.pay();

        RulePayroll x = new RulePayroll();
        for (int what = 0; what <= 7; what++) {
            check.due("count(" + what + ") of a new object", 0, x.count(what));
        }
        for (int a = 0; a < 3; a++) {
            check.due("account(" + a + ") of a new object", 0, x.account(a));
        }
        for (int p = 0; p < 6; p++) {
            check.due("paid gross of " + p, 0, x.paid(p, 0));
            check.due("paid tax of " + p, 0, x.paid(p, 1));
            check.due("held(0, " + p + ")", Check.REFUSED, x.held(0, p));
            check.due("slip(0, " + p + ", 0)", Check.NONE, x.slip(0, p, 0));
            check.due("value(" + p + ", 0)", Check.NONE, x.value(p, 0));
        }
        check.due("back(0)", Check.REFUSED, x.back(0));
        check.due("again(0)", Check.REFUSED, x.again(0));
        check.due("again(-1)", Check.REFUSED, x.again(-1));
        check.due("define(0, 0)", Check.REFUSED, x.define(0, 0));
        for (int i = 0; i < 8; i++) {
            int n = Check.inputNode(x, i);
            check.due("node number", i, n);
            for (int p = 0; p < 6; p++) {
                check.due("input " + i + " of " + p, 0, x.value(p, n));
            }
        }
        for (int d = 0; d < 8; d++) {
            int n = x.node(Check.DEFINED, d, 0, 0);
            check.due("definition " + d, Check.EMPTY, x.value(0, n));
        }
        check.due("the used object's runs", 1, used.count(1));
        check.end();
    }
}
