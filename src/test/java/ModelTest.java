import java.util.Random;

/** Long runs of calls, the same each time, answered by RulePayroll and by Model: all promises at once. */
public final class ModelTest {
    private static final int RUNS = 3000;
    /** With the plain payroll's, together less than the 512 calls for which an object answers. */
    private static final int CALLS = 320;
    private static final int COMPARED = 155;
    private static final int[] EDGES = {
        Integer.MIN_VALUE, Integer.MIN_VALUE + 1, -2000000000, -1, 0, 1, 2, 3, 500, 1000,
        2000000000, Integer.MAX_VALUE - 1, Integer.MAX_VALUE
    };

    private final Check check;
    private final Random random;
    private final RulePayroll x = new RulePayroll();
    private final Model model = new Model();
    private boolean rich;

    private ModelTest(Check check, long seed) {
        this.check = check;
        this.random = new Random(seed);
    }

    public static void main(String[] args) {
        Check check = new Check();
        for (int run = 0; run < RUNS; run++) {
            ModelTest test = new ModelTest(check, run);
            if (run % 3 == 0) {
                test.plainPayroll();
                test.rich = run % 4 == 0;
            }
            for (int call = 0; call < CALLS; call++) {
                test.callBoth(run % 2 == 0 && call < 120);
            }
            for (int call = 0; call < COMPARED; call++) {
                test.compareOne(call);
            }
        }
        check.end();
    }

    /** Gross, tax and net that are mostly even, so that slips are common. */
    private void plainPayroll() {
        int gross = bothNode(1, 0, 0, 0);
        bothDefine(0, gross);
        int tax = random.nextBoolean() ? bothNode(1, 1, 0, 0) : bothNode(19, 0, gross, 0);
        bothDefine(1, tax);
        int definedGross = bothNode(2, 0, 0, 0);
        int definedTax = bothNode(2, 1, 0, 0);
        bothDefine(2, bothNode(5, definedGross, definedTax, 0));
        for (int p = 0; p < 6; p++) {
            due("activate", model.activate(p, true), x.activate(p, true));
        }
    }

    private int bothNode(int kind, int a, int b, int c) {
        int got = x.node(kind, a, b, c);
        due("node(" + kind + ", " + a + ", " + b + ", " + c + ")", model.node(kind, a, b, c), got);
        return got;
    }

    private void bothDefine(int d, int n) {
        due("define(" + d + ", " + n + ")", model.define(d, n), x.define(d, n));
    }

    private void callBoth(boolean making) {
        int choice = random.nextInt(making ? 20 : 100);
        if (choice < 12) {
            bothNode(random.nextInt(40) == 0 ? any(20) : random.nextInt(20), operand(), operand(), operand());
        } else if (choice < 18) {
            bothDefine(rich ? 3 + random.nextInt(5) : any(8), random.nextInt(1 + model.count(0)));
        } else {
            callOther(choice);
        }
    }

    private void callOther(int choice) {
        if (choice < 20) {
            int t = any(2);
            int limit = random.nextInt(3) == 0 ? amount() : random.nextInt(3000);
            int rate = random.nextInt(8) == 0 ? amount() : random.nextInt(1001);
            due("step(" + t + ", " + limit + ", " + rate + ")", model.step(t, limit, rate), x.step(t, limit, rate));
        } else if (choice < 21) {
            int d = rich ? 3 + random.nextInt(5) : any(8);
            due("undefine(" + d + ")", model.undefine(d), x.undefine(d));
        } else if (choice < 22) {
            int t = any(2);
            due("clear(" + t + ")", model.clear(t), x.clear(t));
        } else if (choice < 40) {
            int p = any(6);
            int i = any(rich ? 2 : 8);
            int amount = rich ? wage() : amount();
            due("input(" + p + ", " + i + ", " + amount + ")", model.input(p, i, amount), x.input(p, i, amount));
        } else if (choice < 45) {
            int p = any(6);
            boolean on = random.nextInt(3) > 0;
            due("activate(" + p + ", " + on + ")", model.activate(p, on), x.activate(p, on));
        } else if (choice < 48) {
            due("pay()", model.pay(), x.pay());
        } else if (choice < 50) {
            int r = random.nextInt(1 + model.count(1));
            due("back(" + r + ")", model.back(r), x.back(r));
        } else if (choice < 54) {
            int r = model.count(1) - (random.nextInt(5) == 0 ? any(3) : 1);
            due("again(" + r + ")", model.again(r), x.again(r));
        } else {
            ask(choice);
        }
    }

    private void ask(int choice) {
        int p = any(6);
        int r = random.nextInt(3) == 0 ? any(16) : model.count(1) - 1;
        if (choice < 75) {
            int n = random.nextInt(20) == 0 ? any(70) : random.nextInt(1 + model.count(0));
            due("value(" + p + ", " + n + ")", model.value(p, n), x.value(p, n));
        } else if (choice < 82) {
            int what = any(3);
            due("slip(" + r + ", " + p + ", " + what + ")", model.slip(r, p, what), x.slip(r, p, what));
        } else if (choice < 88) {
            due("held(" + r + ", " + p + ")", model.held(r, p), x.held(r, p));
        } else if (choice < 92) {
            int a = any(3);
            due("account(" + a + ")", model.account(a), x.account(a));
        } else if (choice < 96) {
            int what = any(2);
            due("paid(" + p + ", " + what + ")", model.paid(p, what), x.paid(p, what));
        } else {
            int what = any(8);
            due("count(" + what + ")", model.count(what), x.count(what));
        }
    }

    /** What the state has come to, at numbers in and just outside their ranges. */
    private void compareOne(int call) {
        int p = random.nextInt(8) - 1;
        int r = random.nextInt(Math.min(18, 3 + model.count(1))) - 1;
        int what = random.nextInt(10) - 1;
        int few = random.nextInt(5) - 1;
        switch (call % 8) {
            case 0:
                due("held(" + r + ", " + p + ")", model.held(r, p), x.held(r, p));
                break;
            case 1: case 2:
                due("slip(" + r + ", " + p + ", " + few + ")", model.slip(r, p, few), x.slip(r, p, few));
                break;
            case 3:
                due("paid(" + p + ", " + few + ")", model.paid(p, few), x.paid(p, few));
                break;
            case 4:
                due("account(" + few + ")", model.account(few), x.account(few));
                due("count(" + what + ")", model.count(what), x.count(what));
                break;
            default:
                int n = random.nextInt(3 + model.count(0)) - 1;
                due("value(" + p + ", " + n + ")", model.value(p, n), x.value(p, n));
        }
    }

    private void due(String call, long want, long got) {
        check.due(call, want, got);
    }

    /** Mostly 0 .. bound - 1, seldom just outside, or an edge of the ints. */
    private int any(int bound) {
        int choice = random.nextInt(40);
        if (choice == 0) {
            return amount();
        }
        return choice == 1 ? -1 : choice == 2 ? bound : random.nextInt(bound);
    }

    private int operand() {
        int choice = random.nextInt(20);
        if (choice == 0) {
            return amount();
        }
        if (choice < 3) {
            return random.nextInt(10) - 1;
        }
        return choice < 7 ? random.nextInt(2) : random.nextInt(1 + model.count(0));
    }

    /** Such that a run taken back often leaves a PAID that is no int. */
    private int wage() {
        return (random.nextInt(5) - 2) * (random.nextInt(3) == 0 ? 1 << 30 : 700000000);
    }

    private int amount() {
        int choice = random.nextInt(4);
        if (choice == 0) {
            return EDGES[random.nextInt(EDGES.length)];
        }
        return choice == 1 ? random.nextInt() : random.nextInt(10000) - 2000;
    }
}
