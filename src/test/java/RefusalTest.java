import java.util.ArrayList;
import java.util.List;

/**
 * "A refused call changes nothing. Numbers out of their ranges are REFUSED in every call."
 *
 * <p>Each refused call is made on an object that has come to some state. From there on it and its
 * twin, which has come to the same state without that call, must answer all other calls alike. As
 * an object answers for 512 calls only, each part of the other calls has a pair of its own.
 */
public final class RefusalTest {
    private static final Check check = new Check();
    private static final int CALLS_OF_AN_OBJECT = 512;
    private static final int CALLS_NOT_KEPT = 2;

    private interface Call {
        long on(RulePayroll x);
    }

    private record Named(String name, long want, Call call) {
    }

    /** An object and what it answered, but for the refused call and one that asks for a number. */
    private static final class Log {
        final RulePayroll x = new RulePayroll();
        final List<Long> answers = new ArrayList<>();

        void add(long answer) {
            answers.add(answer);
        }
    }

    private interface Part {
        void askOf(Log log);
    }

    public static void main(String[] args) {
        check.run(RefusalTest.class);
        check.end();
    }

    @Sentence("A refused call changes nothing.")
    private static void refusedCallsChangeNothing() {
        allOf("a new object", log -> { }, refusedAtFirst());
        allOf("a payroll in use", RefusalTest::inUse, refusedInUse());
        allOf("nodes of ten levels", RefusalTest::tenLevels, refusedUponTenLevels());
        allOf("a payroll that is full", RefusalTest::full, refusedWhenFull());
        allOf("a payroll whose last run is taken back", RefusalTest::lastTakenBack, refusedWhenLastTakenBack());
    }

    /** Nor does a call that only asks and is answered. */
    @Sentence("A refused call changes nothing.")
    private static void askingChangesNothing() {
        allOf("a payroll in use", RefusalTest::inUse, asking(RefusalTest::inUse));
        allOf("a payroll that is full", RefusalTest::full, asking(RefusalTest::full));
    }

    /** Or NONE, where a call's own promise says so. */
    @Sentence("Numbers out of their ranges are REFUSED in every call.")
    private static void numbersOutOfTheirRangesAreRefused() {
        List<Named> calls = new ArrayList<>();
        outOfTheirRanges(calls);
        for (Named named : calls) {
            Log log = new Log();
            inUse(log);
            check.due(named.name(), named.want(), named.call().on(log.x));
        }
    }

    private static void allOf(String where, Part state, List<Named> refused) {
        for (Part part : parts()) {
            List<Long> due = answersOf(state, null, part);
            for (Named named : refused) {
                List<Long> got = answersOf(state, named, part);
                check.due("how many answers after " + named.name() + " on " + where, due.size(), got.size());
                for (int i = 0; i < Math.min(due.size(), got.size()); i++) {
                    check.due("call " + i + " after " + named.name() + " on " + where, due.get(i), got.get(i));
                }
            }
        }
    }

    private static List<Long> answersOf(Part state, Named refused, Part part) {
        Log log = new Log();
        state.askOf(log);
        int before = log.answers.size();
        if (refused != null) {
            check.due(refused.name(), refused.want(), refused.call().on(log.x));
        }
        part.askOf(log);
        boolean few = log.answers.size() + CALLS_NOT_KEPT <= CALLS_OF_AN_OBJECT;
        check.due("no more calls than an object answers", 1, few ? 1 : 0);
        return log.answers.subList(before, log.answers.size());
    }

    // The states.

    /** Rules of every kind; three runs, the second taken back; persons paid, held and not active. */
    private static void inUse(Log log) {
        RulePayroll x = log.x;
        inputsAndDefinitions(log);
        log.add(x.node(Check.SCALE, 0, 8, 0));
        log.add(x.node(Check.SCALE, 1, 8, 0));
        log.add(x.node(Check.PAID, 0, 0, 0));
        log.add(x.node(Check.PAID, 1, 0, 0));
        log.add(x.step(0, 100, 100));
        log.add(x.step(0, 1000, 300));
        log.add(x.step(1, 50, 1000));
        wagesOfAll(log, 1);
        log.add(x.pay());
        wagesOfAll(log, 2);
        log.add(x.pay());
        log.add(x.pay());
        log.add(x.back(1));
    }

    /** Nodes 0 .. 15: the inputs and what is defined; the gross, tax and net are inputs, 7 is the tax. */
    private static void inputsAndDefinitions(Log log) {
        RulePayroll x = log.x;
        for (int i = 0; i < 8; i++) {
            log.add(x.node(Check.INPUT, i, 0, 0));
        }
        for (int d = 0; d < 8; d++) {
            log.add(x.node(Check.DEFINED, d, 0, 0));
        }
        for (int d = 0; d < 3; d++) {
            log.add(x.define(d, d));
        }
        log.add(x.define(7, 9));
    }

    /** Persons 0 and 3 are paid, 2 is held. */
    private static void wagesOfAll(Log log, int unit) {
        RulePayroll x = log.x;
        for (int p = 0; p < 4; p++) {
            log.add(x.input(p, 0, 100 * unit + p));
            log.add(x.input(p, 2, 100 * unit + (p == 2 ? 0 : p)));
            log.add(x.activate(p, p != 1));
        }
    }

    /** Nodes 0 .. 9 of the levels 1 .. 10. */
    private static void tenLevels(Log log) {
        log.add(log.x.node(Check.DEFINED, 3, 0, 0));
        for (int n = 1; n < 10; n++) {
            log.add(log.x.node(Check.NOT, n - 1, 0, 0));
        }
    }

    /** 70 nodes (16 to 25 of the levels 1 to 10), 8 definitions, 5 steps in both tables, 16 runs. */
    private static void full(Log log) {
        RulePayroll x = log.x;
        inputsAndDefinitions(log);
        log.add(x.node(Check.PAID, 0, 0, 0));
        for (int n = 17; n < 26; n++) {
            log.add(x.node(Check.NOT, n - 1, 0, 0));
        }
        log.add(x.node(Check.SCALE, 0, 8, 0));
        log.add(x.node(Check.SCALE, 1, 8, 0));
        for (int n = 28; n < 70; n++) {
            log.add(x.node(Check.NUMBER, n, 0, 0));
        }
        for (int d = 3; d < 7; d++) {
            log.add(x.define(d, d));
        }
        for (int s = 1; s <= 5; s++) {
            log.add(x.step(0, 20 * s, 100 * s));
            log.add(x.step(1, 30 * s, 1000 - s));
        }
        wagesOfAll(log, 1);
        for (int p = 4; p < 6; p++) {
            log.add(x.activate(p, true));
        }
        for (int r = 0; r < 16; r++) {
            log.add(x.pay());
        }
        for (int r = 0; r < 15; r += 5) {
            log.add(x.back(r));
        }
    }

    /** The last run is taken back, and what is PAID to person 0 is no int. */
    private static void lastTakenBack(Log log) {
        RulePayroll x = log.x;
        inUse(log);
        int[] wages = {-2000000000, 2000000000, 2000000000};
        for (int wage : wages) {
            log.add(x.input(0, 0, wage));
            log.add(x.input(0, 2, wage));
            log.add(x.pay());
        }
        log.add(x.back(3));
        log.add(x.pay());
        log.add(x.back(6));
    }

    // All other calls, in parts: what is asked first, then what is changed and what follows from it.

    private static List<Part> parts() {
        return List.of(
            log -> countsAndSums(log),
            log -> valuesOf(log, 0, 2),
            log -> valuesOf(log, 2, 4),
            log -> valuesOf(log, 4, 6),
            log -> slips(log),
            log -> reasons(log),
            log -> makeNodes(log),
            log -> makeChainsUpon(log, 0),
            log -> makeChainsUpon(log, 5),
            log -> makeChainsUpon(log, 10),
            log -> makeChainsUpon(log, 15),
            log -> makeChainsUpon(log, 69),
            log -> changeDefinitions(log),
            log -> changeTables(log),
            log -> changePersons(log),
            log -> payOnce(log),
            log -> payAnew(log),
            log -> takeBack(log));
    }

    private static void countsAndSums(Log log) {
        for (int what = 0; what < 8; what++) {
            log.add(log.x.count(what));
        }
        for (int a = 0; a < 3; a++) {
            log.add(log.x.account(a));
        }
        for (int p = 0; p < 6; p++) {
            log.add(log.x.paid(p, 0));
            log.add(log.x.paid(p, 1));
        }
    }

    private static void valuesOf(Log log, int from, int to) {
        for (int p = from; p < to; p++) {
            for (int n = 0; n < 71; n++) {
                log.add(log.x.value(p, n));
            }
        }
    }

    private static void slips(Log log) {
        for (int r = 0; r < 17; r++) {
            for (int p = 0; p < 6; p++) {
                for (int what = 0; what < 3; what++) {
                    log.add(log.x.slip(r, p, what));
                }
            }
        }
    }

    private static void reasons(Log log) {
        for (int r = 0; r < 17; r++) {
            for (int p = 0; p < 6; p++) {
                log.add(log.x.held(r, p));
            }
        }
    }

    private static void makeNodes(Log log) {
        RulePayroll x = log.x;
        for (int i = 0; i < 8; i++) {
            log.add(x.node(Check.INPUT, i, 0, 0));
        }
        for (int d = 0; d < 8; d++) {
            log.add(x.node(Check.DEFINED, d, 0, 0));
        }
        for (int kind = 0; kind < 20; kind++) {
            log.add(x.node(kind, 1, 1, 1));
        }
        int top = x.count(0) - 1;
        for (int level = 0; level < 12; level++) {
            log.add(x.node(Check.NOT, top + level, 0, 0));
        }
        for (int n = 0; n < 70; n++) {
            log.add(x.value(3, n));
        }
        for (int n = 0; n < 70; n++) {
            log.add(x.define(n % 8, n));
        }
    }

    /** What levels five of the nodes have: each has as many nodes put upon it as may be. */
    private static void makeChainsUpon(Log log, int first) {
        for (int n = first; n < first + 5; n++) {
            int top = n;
            for (int level = 0; level < 11 && top >= 0; level++) {
                top = log.x.node(Check.NOT, top, 0, 0);
                log.add(top);
            }
        }
    }

    private static void changeDefinitions(Log log) {
        RulePayroll x = log.x;
        for (int d = 0; d < 8; d++) {
            log.add(x.define(d, d));
            log.add(x.define(d, 15));
            log.add(x.count(7));
            for (int n = 8; n < 16; n++) {
                log.add(x.value(0, n));
            }
        }
        for (int d = 7; d >= 0; d--) {
            log.add(x.undefine(d));
            log.add(x.count(7));
        }
        countsAndSums(log);
    }

    private static void changeTables(Log log) {
        RulePayroll x = log.x;
        for (int s = 0; s < 6; s++) {
            log.add(x.step(0, s * 60, 1000));
            log.add(x.step(1, s * 60, 500));
            log.add(x.value(3, 16));
            log.add(x.value(3, 17));
        }
        for (int t = 0; t < 2; t++) {
            log.add(x.clear(t));
            log.add(x.clear(t));
            log.add(x.step(t, 1, 1000));
            log.add(x.value(3, 16 + t));
            log.add(x.value(3, 26 + t));
        }
        countsAndSums(log);
    }

    private static void changePersons(Log log) {
        RulePayroll x = log.x;
        for (int p = 0; p < 6; p++) {
            for (int i = 0; i < 8; i++) {
                log.add(x.input(p, i, 8 * p + i));
                log.add(x.value(p, i));
            }
            log.add(x.activate(p, p % 2 == 0));
            log.add(x.count(4));
        }
        log.add(x.pay());
        countsAndSums(log);
    }

    private static void payOnce(Log log) {
        log.add(log.x.pay());
        countsAndSums(log);
        reasons(log);
        for (int r = 0; r < 8; r++) {
            for (int p = 0; p < 6; p++) {
                log.add(log.x.slip(r, p, 2));
            }
        }
    }

    private static void payAnew(Log log) {
        for (int r = 16; r >= 0; r--) {
            log.add(log.x.again(r));
        }
        log.add(log.x.pay());
        log.add(log.x.again(log.x.count(1) - 1));
        countsAndSums(log);
        reasons(log);
    }

    private static void takeBack(Log log) {
        for (int r = 0; r < 17; r++) {
            log.add(log.x.back(r));
            log.add(log.x.paid(0, 0));
            log.add(log.x.paid(3, 0));
        }
        countsAndSums(log);
        log.add(log.x.pay());
        countsAndSums(log);
    }

    // The refused calls.

    private static List<Named> refusedAtFirst() {
        List<Named> calls = new ArrayList<>();
        outOfTheirRanges(calls);
        refused(calls, "NOT of no node", x -> x.node(Check.NOT, 0, 0, 0));
        refused(calls, "DEFAULT of no node", x -> x.node(Check.DEFAULT, -1, 0, 0));
        refused(calls, "SCALE of no node", x -> x.node(Check.SCALE, 0, 0, 0));
        refused(calls, "define by no node", x -> x.define(0, 0));
        refused(calls, "back without runs", x -> x.back(0));
        refused(calls, "again without runs", x -> x.again(0));
        refused(calls, "held without runs", x -> x.held(0, 0));
        none(calls, "value without nodes", x -> x.value(0, 0));
        none(calls, "slip without runs", x -> x.slip(0, 0, 0));
        return calls;
    }

    private static List<Named> refusedInUse() {
        List<Named> calls = new ArrayList<>();
        outOfTheirRanges(calls);
        asEveryOperand(calls, "the node itself", 20);
        for (int d = 0; d < 8; d++) {
            int definition = d;
            refused(calls, "define " + d + " by DEFINED " + d, x -> x.define(definition, 8 + definition));
            refused(calls, "define " + d + " by DEFINED 7", x -> x.define(definition, 15));
            refused(calls, "define " + d + " by no node", x -> x.define(definition, 20));
        }
        refused(calls, "a step of the last limit", x -> x.step(0, 1000, 7));
        refused(calls, "a step below the last limit", x -> x.step(0, 999, 7));
        refused(calls, "a step of the last limit of table 1", x -> x.step(1, 50, 7));
        refused(calls, "back of a run taken back", x -> x.back(1));
        refused(calls, "back of no run", x -> x.back(3));
        refused(calls, "again of the first run", x -> x.again(0));
        refused(calls, "again of a run taken back", x -> x.again(1));
        refused(calls, "again of no run", x -> x.again(3));
        refused(calls, "held of no run", x -> x.held(3, 0));
        none(calls, "value of no node", x -> x.value(0, 20));
        none(calls, "slip of no run", x -> x.slip(3, 0, 0));
        none(calls, "slip of who is held", x -> x.slip(0, 2, 0));
        none(calls, "slip of who is not active", x -> x.slip(0, 1, 0));
        return calls;
    }

    private static List<Named> refusedUponTenLevels() {
        List<Named> calls = new ArrayList<>();
        outOfTheirRanges(calls);
        asEveryOperand(calls, "a node of level 10", 9);
        refused(calls, "define 3 by a node of rank 4", x -> x.define(3, 9));
        return calls;
    }

    private static List<Named> refusedWhenFull() {
        List<Named> calls = new ArrayList<>();
        outOfTheirRanges(calls);
        for (int kind = 0; kind < 20; kind++) {
            int fullKind = kind;
            full(calls, "kind " + kind + " as 71st node", x -> x.node(fullKind, 1, 1, 1));
        }
        full(calls, "a node of level 10 as 71st node", x -> x.node(Check.NOT, 24, 0, 0));
        refused(calls, "a node of level 11", x -> x.node(Check.NOT, 25, 0, 0));
        refused(calls, "a node upon no node", x -> x.node(Check.NOT, 70, 0, 0));
        for (int t = 0; t < 2; t++) {
            int table = t;
            full(calls, "a 6th step of table " + t, x -> x.step(table, 1000, 7));
            refused(calls, "a 6th step, too low, of table " + t, x -> x.step(table, 100, 7));
        }
        full(calls, "a 17th run", x -> x.pay());
        refused(calls, "back of a run taken back", x -> x.back(10));
        refused(calls, "back of no run", x -> x.back(16));
        refused(calls, "again of the run before the last", x -> x.again(14));
        refused(calls, "again of no run", x -> x.again(16));
        refused(calls, "held of no run", x -> x.held(16, 0));
        none(calls, "value of no node", x -> x.value(0, 70));
        none(calls, "slip of no run", x -> x.slip(16, 0, 0));
        return calls;
    }

    private static List<Named> refusedWhenLastTakenBack() {
        List<Named> calls = new ArrayList<>();
        outOfTheirRanges(calls);
        refused(calls, "again of the last run, taken back", x -> x.again(6));
        refused(calls, "again of the last that is not", x -> x.again(5));
        refused(calls, "again of no run", x -> x.again(7));
        refused(calls, "back of the last run, taken back", x -> x.back(6));
        refused(calls, "back of no run", x -> x.back(7));
        none(calls, "value with PAID that is no int", x -> x.value(0, 0));
        none(calls, "slip of who was held for it", x -> x.slip(6, 0, 0));
        return calls;
    }

    /** Every number of every call, just outside its range and far from it, the others being good. */
    private static void outOfTheirRanges(List<Named> calls) {
        outside(calls, "node(bad, 1, 1, 1)", 19, (x, bad) -> x.node(bad, 1, 1, 1));
        outside(calls, "node(INPUT, bad)", 7, (x, bad) -> x.node(Check.INPUT, bad, 0, 0));
        outside(calls, "node(DEFINED, bad)", 7, (x, bad) -> x.node(Check.DEFINED, bad, 0, 0));
        outside(calls, "node(PAID, bad)", 1, (x, bad) -> x.node(Check.PAID, bad, 0, 0));
        outside(calls, "node(SCALE, bad, 0)", 1, (x, bad) -> x.node(Check.SCALE, bad, 0, 0));
        outside(calls, "node(NOT, bad)", 69, (x, bad) -> x.node(Check.NOT, bad, 0, 0));
        outside(calls, "define(bad, 0)", 7, (x, bad) -> x.define(bad, 0));
        outside(calls, "define(7, bad)", 69, (x, bad) -> x.define(7, bad));
        outside(calls, "undefine(bad)", 7, (x, bad) -> x.undefine(bad));
        outside(calls, "step(bad, 2000, 1)", 1, (x, bad) -> x.step(bad, 2000, 1));
        outside(calls, "step(0, 2000, bad)", 1000, (x, bad) -> x.step(0, 2000, bad));
        outside(calls, "step(1, 2000, bad)", 1000, (x, bad) -> x.step(1, 2000, bad));
        refused(calls, "step(0, 0, 1)", x -> x.step(0, 0, 1));
        refused(calls, "step(1, -1, 1)", x -> x.step(1, -1, 1));
        refused(calls, "step(1, the least int, 1)", x -> x.step(1, Check.MIN_INT, 1));
        outside(calls, "clear(bad)", 1, (x, bad) -> x.clear(bad));
        outside(calls, "input(bad, 0, 9)", 5, (x, bad) -> x.input(bad, 0, 9));
        outside(calls, "input(bad, 7, 9)", 5, (x, bad) -> x.input(bad, 7, 9));
        outside(calls, "input(0, bad, 9)", 7, (x, bad) -> x.input(0, bad, 9));
        outside(calls, "input(3, bad, 9)", 7, (x, bad) -> x.input(3, bad, 9));
        outside(calls, "activate(bad, true)", 5, (x, bad) -> x.activate(bad, true));
        outside(calls, "activate(bad, false)", 5, (x, bad) -> x.activate(bad, false));
        outside(calls, "back(bad)", 15, (x, bad) -> x.back(bad));
        outside(calls, "again(bad)", 15, (x, bad) -> x.again(bad));
        outside(calls, "held(bad, 0)", 15, (x, bad) -> x.held(bad, 0));
        outside(calls, "held(0, bad)", 5, (x, bad) -> x.held(0, bad));
        outside(calls, "count(bad)", 7, (x, bad) -> x.count(bad));
        outsideIsNone(calls, "value(bad, 0)", 5, (x, bad) -> x.value(bad, 0));
        outsideIsNone(calls, "value(3, bad)", 69, (x, bad) -> x.value(3, bad));
        outsideIsNone(calls, "slip(bad, 0, 0)", 15, (x, bad) -> x.slip(bad, 0, 0));
        outsideIsNone(calls, "slip(0, bad, 0)", 5, (x, bad) -> x.slip(0, bad, 0));
        outsideIsNone(calls, "slip(0, 3, bad)", 2, (x, bad) -> x.slip(0, 3, bad));
        outsideIsNone(calls, "account(bad)", 2, (x, bad) -> x.account(bad));
        outsideIsNone(calls, "paid(bad, 0)", 5, (x, bad) -> x.paid(bad, 0));
        outsideIsNone(calls, "paid(3, bad)", 1, (x, bad) -> x.paid(3, bad));
    }

    private static List<Named> asking(Part state) {
        List<Named> calls = new ArrayList<>();
        for (int p = 0; p < 6; p++) {
            int person = p;
            asked(calls, "value(" + p + ", 19)", state, x -> x.value(person, 19));
            asked(calls, "slip(2, " + p + ", 0)", state, x -> x.slip(2, person, 0));
            asked(calls, "held(0, " + p + ")", state, x -> x.held(0, person));
            asked(calls, "paid(" + p + ", 0)", state, x -> x.paid(person, 0));
        }
        for (int what = 0; what < 8; what++) {
            int number = what;
            asked(calls, "count(" + what + ")", state, x -> x.count(number));
            asked(calls, "account(" + what + ")", state, x -> x.account(number));
        }
        return calls;
    }

    private static void asked(List<Named> calls, String name, Part state, Call call) {
        Log twin = new Log();
        state.askOf(twin);
        calls.add(new Named(name, call.on(twin.x), call));
    }

    /** Nodes of every kind that takes nodes, one of its operands being bad, the others node 0. */
    private static void asEveryOperand(List<Named> calls, String what, int bad) {
        for (int kind = 0; kind < 20; kind++) {
            for (int which = 1; which <= 4; which *= 2) {
                if ((Check.nodeOperands(kind) & which) != 0) {
                    int refusedKind = kind;
                    int operand = which;
                    refused(calls, "kind " + kind + " with " + what + " as operand " + which,
                        x -> Check.nodeWith(x, refusedKind, operand, bad, 0));
                }
            }
        }
    }

    private interface CallOfOne {
        long on(RulePayroll x, int number);
    }

    private static void outside(List<Named> calls, String name, int last, CallOfOne call) {
        for (int bad : Check.outside(last)) {
            refused(calls, name + ", bad is " + bad, x -> call.on(x, bad));
        }
    }

    private static void outsideIsNone(List<Named> calls, String name, int last, CallOfOne call) {
        for (int bad : Check.outside(last)) {
            none(calls, name + ", bad is " + bad, x -> call.on(x, bad));
        }
    }

    private static void refused(List<Named> calls, String name, Call call) {
        calls.add(new Named(name, Check.REFUSED, call));
    }

    private static void full(List<Named> calls, String name, Call call) {
        calls.add(new Named(name, Check.FULL, call));
    }

    private static void none(List<Named> calls, String name, Call call) {
        calls.add(new Named(name, Check.NONE, call));
    }
}
