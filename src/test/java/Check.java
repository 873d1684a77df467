import java.lang.reflect.InvocationTargetException;
import java.lang.reflect.Method;
import java.util.ArrayList;
import java.util.Comparator;
import java.util.List;

/** Counts the answers that are not as due, and says the terms that the tests make most. */
final class Check {
    static final int NUMBER = 0;
    static final int INPUT = 1;
    static final int DEFINED = 2;
    static final int PAID = 3;
    static final int ADD = 4;
    static final int SUB = 5;
    static final int MUL = 6;
    static final int LESS = 7;
    static final int SAME = 8;
    static final int MIN = 9;
    static final int MAX = 10;
    static final int SHARE = 11;
    static final int NOT = 12;
    static final int BOTH = 13;
    static final int ANY = 14;
    static final int IF = 15;
    static final int NOTHING = 16;
    static final int DEFAULT = 17;
    static final int ALSO = 18;
    static final int SCALE = 19;

    static final int REFUSED = RulePayroll.REFUSED;
    static final int FULL = RulePayroll.FULL;
    static final long NONE = RulePayroll.NONE;
    static final long EMPTY = RulePayroll.EMPTY;
    static final long CONFLICT = RulePayroll.FAULT + 1;
    static final long MISSING = RulePayroll.FAULT + 2;
    static final long ZERO = RulePayroll.FAULT + 3;
    static final long RANGE = RulePayroll.FAULT + 4;

    static final int MIN_INT = Integer.MIN_VALUE;
    static final int MAX_INT = Integer.MAX_VALUE;

    private String sentences = "";
    private int wrong;
    private int asked;

    /** Runs the test methods of a class, those with a Sentence, each by its own. */
    void run(Class<?> tests) {
        for (Method method : methodsWithSentences(tests)) {
            sentences = " (" + String.join(" / ", method.getAnnotation(Sentence.class).value()) + ")";
            int before = asked;
            invoke(method);
            due(method.getName() + " asks for something", 1, asked > before ? 1 : 0);
            sentences = "";
        }
    }

    static List<Method> methodsWithSentences(Class<?> tests) {
        List<Method> methods = new ArrayList<>();
        for (Method method : tests.getDeclaredMethods()) {
            if (method.isAnnotationPresent(Sentence.class)) {
                methods.add(method);
            }
        }
        methods.sort(Comparator.comparing(Method::getName));
        return methods;
    }

    private void invoke(Method method) {
        try {
            method.setAccessible(true);
            method.invoke(null);
        } catch (IllegalAccessException | InvocationTargetException thrown) {
            wrong++;
            System.out.println(method.getName() + " was broken off by " + thrown.getCause() + sentences);
        }
    }

    void due(String what, long want, long got) {
        asked++;
        if (want != got) {
            wrong++;
            System.out.println(what + " answered " + got + ", due is " + want + sentences);
        }
    }

    void end() {
        System.out.println(asked + " answers, " + wrong + " not as due");
        if (wrong != 0 || asked == 0) {
            System.exit(1);
        }
    }

    static int number(RulePayroll x, int a) {
        return x.node(NUMBER, a, 0, 0);
    }

    static int inputNode(RulePayroll x, int i) {
        return x.node(INPUT, i, 0, 0);
    }

    static int nothing(RulePayroll x) {
        return x.node(NOTHING, 0, 0, 0);
    }

    /** A node that is FAULT 3. */
    static int zeroFault(RulePayroll x) {
        int one = number(x, 1);
        return x.node(SHARE, one, one, number(x, 0));
    }

    /** A node that is FAULT 1. */
    static int conflictFault(RulePayroll x) {
        int one = number(x, 1);
        return x.node(ALSO, one, one, 0);
    }

    /** A node that is FAULT 2. */
    static int missingFault(RulePayroll x) {
        return x.node(NOT, nothing(x), 0, 0);
    }

    /** A node that is FAULT 4. */
    static int rangeFault(RulePayroll x) {
        return x.node(ADD, number(x, MAX_INT), number(x, 1), 0);
    }

    /** The numbers just outside 0 .. last, and the farthest ones. */
    static int[] outside(int last) {
        return new int[] {MIN_INT, -2, -1, last + 1, last + 2, MAX_INT};
    }

    /** Which operands of a kind are nodes: 1 for a, 2 for b, 4 for c, added up. */
    static int nodeOperands(int kind) {
        switch (kind) {
            case NUMBER: case INPUT: case DEFINED: case PAID: case NOTHING: return 0;
            case NOT: return 1;
            case SCALE: return 2;
            case SHARE: case IF: case DEFAULT: return 7;
            default: return 3;
        }
    }

    /** A node of a kind whose operand a (1), b (2) or c (4) is one thing and the others another. */
    static int nodeWith(RulePayroll x, int kind, int which, int one, int others) {
        int a = kind == SCALE && which != 1 ? 0 : others;
        return x.node(kind, which == 1 ? one : a, which == 2 ? one : others, which == 4 ? one : others);
    }

    /** Definitions 0, 1, 2 become a person's inputs 0, 1 and 2. */
    static RulePayroll payrollOfInputs() {
        RulePayroll x = new RulePayroll();
        for (int d = 0; d < 3; d++) {
            x.define(d, inputNode(x, d));
        }
        return x;
    }

    static void wages(RulePayroll x, int p, int gross, int tax, int net) {
        x.input(p, 0, gross);
        x.input(p, 1, tax);
        x.input(p, 2, net);
    }

    /**
     * Brings what is PAID to a person of payrollOfInputs, 0 before, to any gross and tax up to 1
     * beyond the ints, by runs of which the first is taken back. The person is active afterwards.
     */
    static void bringPaidTo(RulePayroll x, int p, long gross, long tax) {
        int first = x.count(1);
        int grossSign = Long.signum(gross);
        int taxSign = Long.signum(tax);
        x.activate(p, true);
        slip(x, p, -grossSign, -taxSign);
        slip(x, p, gross / 2, tax / 2);
        slip(x, p, gross - gross / 2 - grossSign, tax - tax / 2 - taxSign);
        slip(x, p, grossSign, taxSign);
        x.back(first);
    }

    private static void slip(RulePayroll x, int p, long gross, long tax) {
        wages(x, p, (int) gross, (int) tax, (int) (gross - tax));
        x.pay();
    }
}
