import java.util.Arrays;

/**
 * A payroll whose rules are terms with defaults and exceptions: definitions are worked out for
 * each person, pay runs post what follows to accounts, and runs can be taken back or done anew.
 */
public final class RulePayroll {
    public static final int REFUSED = -1;
    public static final int FULL = -2;
    public static final long NONE = 1000000000000L;
    public static final long EMPTY = 1000000000001L;
    public static final long FAULT = 1000000000100L;

    private static final long CONFLICT = FAULT + 1;
    private static final long MISSING = FAULT + 2;
    private static final long ZERO = FAULT + 3;
    private static final long RANGE = FAULT + 4;

    private static final int NOT_HELD = 0;
    private static final int UNEVEN = 5;
    private static final int PAID_TOO_FAR = 6;

    private static final int NUMBER = 0;
    private static final int INPUT = 1;
    private static final int DEFINED = 2;
    private static final int PAID = 3;
    private static final int ADD = 4;
    private static final int SUB = 5;
    private static final int MUL = 6;
    private static final int LESS = 7;
    private static final int SAME = 8;
    private static final int MIN = 9;
    private static final int SHARE = 11;
    private static final int NOT = 12;
    private static final int BOTH = 13;
    private static final int ANY = 14;
    private static final int IF = 15;
    private static final int NOTHING = 16;
    private static final int DEFAULT = 17;
    private static final int ALSO = 18;
    private static final int SCALE = 19;
    private static final int KINDS = 20;

    private static final int A = 1;
    private static final int B = 2;
    private static final int C = 4;

    /** For each kind, which of its operands are nodes. */
    private static final int[] NODE_OPERANDS = {
        0, 0, 0, 0,
        A | B, A | B, A | B, A | B, A | B, A | B, A | B,
        A | B | C, A, A | B, A | B, A | B | C,
        0, A | B | C, A | B, B
    };

    private static final int NO_NODE = -1;
    private static final int MAX_NODES = 70;
    private static final int MAX_LEVEL = 10;
    private static final int DEFINITIONS = 8;
    private static final int INPUTS = 8;
    private static final int TABLES = 2;
    private static final int MAX_STEPS = 5;
    private static final int THOUSANDTHS = 1000;
    private static final int PERSONS = 6;
    private static final int MAX_RUNS = 16;

    private static final int GROSS = 0;
    private static final int TAX = 1;
    private static final int NET = 2;
    private static final int AMOUNTS = 3;
    private static final int PAID_AMOUNTS = 2;

    private final Rules rules;
    private final Person[] persons;
    private final Runs runs;

    public RulePayroll() {
        rules = new Rules();
        persons = new Person[PERSONS];
        for (int p = 0; p < PERSONS; p++) {
            persons[p] = new Person();
        }
        runs = new Runs();
    }

    public int node(int kind, int a, int b, int c) {
        return rules.nodes.make(kind, a, b, c);
    }

    public int define(int d, int node) {
        if (!within(d, DEFINITIONS) || !rules.nodes.has(node) || rules.nodes.ranks[node] > d) {
            return REFUSED;
        }
        rules.definitions[d] = node;
        return 0;
    }

    public int undefine(int d) {
        if (!within(d, DEFINITIONS)) {
            return REFUSED;
        }
        rules.definitions[d] = NO_NODE;
        return 0;
    }

    public int step(int t, int limit, int rate) {
        return within(t, TABLES) ? rules.tables[t].addStep(limit, rate) : REFUSED;
    }

    public int clear(int t) {
        return within(t, TABLES) ? rules.tables[t].loseSteps() : REFUSED;
    }

    public int input(int p, int i, int value) {
        if (!within(p, PERSONS) || !within(i, INPUTS)) {
            return REFUSED;
        }
        persons[p].inputs[i] = value;
        return 0;
    }

    public int activate(int p, boolean on) {
        if (!within(p, PERSONS)) {
            return REFUSED;
        }
        persons[p].active = on;
        return 0;
    }

    public long value(int p, int node) {
        if (!within(p, PERSONS) || !rules.nodes.has(node) || !persons[p].paidIsInt()) {
            return NONE;
        }
        rules.workOutFor(persons[p]);
        return rules.worked[node];
    }

    public int pay() {
        if (runs.made == MAX_RUNS) {
            return FULL;
        }
        int r = runs.made;
        runs.made++;
        payAll(r);
        return r;
    }

    public int back(int r) {
        if (!runs.stands(r)) {
            return REFUSED;
        }
        unpayAll(r);
        runs.takenBack[r] = true;
        return 0;
    }

    public int again(int r) {
        if (!runs.stands(r) || r != runs.made - 1) {
            return REFUSED;
        }
        unpayAll(r);
        payAll(r);
        return runs.slipsOf(r);
    }

    public long slip(int r, int p, int what) {
        if (!runs.has(r) || !within(p, PERSONS) || !within(what, AMOUNTS)) {
            return NONE;
        }
        return runs.amountOf(r, p, what);
    }

    public int held(int r, int p) {
        if (!runs.has(r) || !within(p, PERSONS)) {
            return REFUSED;
        }
        return runs.reasons[r * PERSONS + p];
    }

    public long account(int a) {
        if (!within(a, AMOUNTS)) {
            return NONE;
        }
        return a == GROSS ? runs.totalOf(GROSS) : -runs.totalOf(a);
    }

    public long paid(int p, int what) {
        if (!within(p, PERSONS) || !within(what, PAID_AMOUNTS)) {
            return NONE;
        }
        return persons[p].paidSoFar(what);
    }

    public int count(int what) {
        switch (what) {
            case 0: return rules.nodes.made;
            case 1: return runs.made;
            case 2: return runs.howManyTakenBack();
            case 3: return runs.slipsStanding();
            case 4: return howManyActive();
            case 5: return rules.tables[0].steps;
            case 6: return rules.tables[1].steps;
            case 7: return rules.definitionBits();
            default: return REFUSED;
        }
    }

    private static boolean within(int number, int bound) {
        return number >= 0 && number < bound;
    }

    private int howManyActive() {
        int active = 0;
        for (int p = 0; p < PERSONS; p++) {
            if (persons[p].active) {
                active++;
            }
        }
        return active;
    }

    private void payAll(int r) {
        for (int p = 0; p < PERSONS; p++) {
            runs.wipe(r, p);
            if (persons[p].active) {
                payOne(r, p);
            }
        }
    }

    private void payOne(int r, int p) {
        Person person = persons[p];
        if (!person.paidIsInt()) {
            runs.hold(r, p, PAID_TOO_FAR);
            return;
        }
        rules.workOutFor(person);
        long gross = rules.workedDefinition(GROSS);
        long tax = rules.workedDefinition(TAX);
        long net = rules.workedDefinition(NET);
        int reason = person.reasonToHold(gross, tax, net);
        if (reason != NOT_HELD) {
            runs.hold(r, p, reason);
            return;
        }
        runs.writeSlip(r, p, gross, tax, net);
        person.grow(gross, tax);
    }

    private void unpayAll(int r) {
        for (int p = 0; p < PERSONS; p++) {
            if (runs.hasSlip(r, p)) {
                persons[p].grow(-runs.amountOf(r, p, GROSS), -runs.amountOf(r, p, TAX));
            }
        }
    }

    /** What is done with VALUES, each an int, EMPTY or a FAULT, held as the face answers them. */
    private static final class Values {
        private Values() {
        }

        static boolean isInt(long x) {
            return x >= Integer.MIN_VALUE && x <= Integer.MAX_VALUE;
        }

        /** What becomes of a term one of whose operands is no int. */
        static long faultOf(long x) {
            return x == EMPTY ? MISSING : x;
        }

        static long truthOf(long x) {
            if (!isInt(x)) {
                return faultOf(x);
            }
            return x != 0 ? 1 : 0;
        }

        static long not(long x) {
            if (!isInt(x)) {
                return faultOf(x);
            }
            return x == 0 ? 1 : 0;
        }

        static long both(long x, long y) {
            if (!isInt(x)) {
                return faultOf(x);
            }
            return x == 0 ? 0 : truthOf(y);
        }

        static long any(long x, long y) {
            if (!isInt(x)) {
                return faultOf(x);
            }
            return x != 0 ? 1 : truthOf(y);
        }

        static long choice(long x, long y, long z) {
            if (!isInt(x)) {
                return faultOf(x);
            }
            return x != 0 ? y : z;
        }

        static long also(long x, long y) {
            if (x != EMPTY && !isInt(x)) {
                return x;
            }
            if (y != EMPTY && !isInt(y)) {
                return y;
            }
            if (x != EMPTY && y != EMPTY) {
                return CONFLICT;
            }
            return x != EMPTY ? x : y;
        }

        static long byDefault(long exception, long condition, long otherwise) {
            if (exception != EMPTY) {
                return exception;
            }
            if (!isInt(condition)) {
                return faultOf(condition);
            }
            return condition == 0 ? EMPTY : otherwise;
        }

        static long ofTwo(int kind, long x, long y) {
            if (!isInt(x)) {
                return faultOf(x);
            }
            if (!isInt(y)) {
                return faultOf(y);
            }
            long result = ofInts(kind, x, y);
            return isInt(result) ? result : RANGE;
        }

        private static long ofInts(int kind, long x, long y) {
            switch (kind) {
                case ADD: return x + y;
                case SUB: return x - y;
                case MUL: return x * y;
                case LESS: return x < y ? 1 : 0;
                case SAME: return x == y ? 1 : 0;
                case MIN: return x < y ? x : y;
                default: return x > y ? x : y;
            }
        }

        static long share(long x, long y, long z) {
            if (!isInt(x)) {
                return faultOf(x);
            }
            if (!isInt(y)) {
                return faultOf(y);
            }
            if (!isInt(z)) {
                return faultOf(z);
            }
            if (z == 0) {
                return ZERO;
            }
            long result = rounded(x * y, z);
            return isInt(result) ? result : RANGE;
        }

        /** The divisor is an int other than 0 and the number at most 2 to the 62nd, so nothing wraps. */
        static long rounded(long number, long divisor) {
            if (divisor == 0) {
                return 0;
            }
            long size = number < 0 ? -number : number;
            long part = divisor < 0 ? -divisor : divisor;
            long quotient = size / part;
            if (2 * (size % part) >= part) {
                quotient++;
            }
            return (number < 0) == (divisor < 0) ? quotient : -quotient;
        }
    }

    /** The nodes as they were made, a column for each operand. */
    private static final class Nodes {
        final int[] kinds = new int[MAX_NODES];
        final int[] as = new int[MAX_NODES];
        final int[] bs = new int[MAX_NODES];
        final int[] cs = new int[MAX_NODES];
        final int[] levels = new int[MAX_NODES];
        final int[] ranks = new int[MAX_NODES];
        final int[] order = new int[MAX_NODES];
        int made;

        boolean has(int n) {
            return within(n, made);
        }

        int make(int kind, int a, int b, int c) {
            if (!within(kind, KINDS) || !operandsFit(kind, a, b, c)) {
                return REFUSED;
            }
            int x = takesNode(kind, A) ? a : NO_NODE;
            int y = takesNode(kind, B) ? b : NO_NODE;
            int z = takesNode(kind, C) ? c : NO_NODE;
            int level = 1 + Math.max(levelOf(x), Math.max(levelOf(y), levelOf(z)));
            if (level > MAX_LEVEL) {
                return REFUSED;
            }
            if (made == MAX_NODES) {
                return FULL;
            }
            int n = made;
            kinds[n] = kind;
            as[n] = a;
            bs[n] = b;
            cs[n] = c;
            levels[n] = level;
            int ownRank = kind == DEFINED ? a + 1 : 0;
            ranks[n] = Math.max(Math.max(ownRank, rankOf(x)), Math.max(rankOf(y), rankOf(z)));
            putInOrder(n);
            made++;
            return n;
        }

        private static boolean takesNode(int kind, int operand) {
            return (NODE_OPERANDS[kind] & operand) != 0;
        }

        private boolean operandsFit(int kind, int a, int b, int c) {
            return firstFits(kind, a)
                && (!takesNode(kind, B) || has(b))
                && (!takesNode(kind, C) || has(c));
        }

        private boolean firstFits(int kind, int a) {
            switch (kind) {
                case NUMBER: return true;
                case NOTHING: return true;
                case INPUT: return within(a, INPUTS);
                case DEFINED: return within(a, DEFINITIONS);
                case PAID: return within(a, PAID_AMOUNTS);
                case SCALE: return within(a, TABLES);
                case DEFAULT: return a == NO_NODE || has(a);
                default: return has(a);
            }
        }

        private int levelOf(int n) {
            return n == NO_NODE ? 0 : levels[n];
        }

        private int rankOf(int n) {
            return n == NO_NODE ? 0 : ranks[n];
        }

        /**
         * By rank, then by number: so each node stands behind its operands, and a DEFINED node
         * behind whatever may be its definition, and one pass works out all without recursion.
         */
        private void putInOrder(int n) {
            int at = n;
            while (at > 0 && ranks[order[at - 1]] > ranks[n]) {
                order[at] = order[at - 1];
                at--;
            }
            order[at] = n;
        }
    }

    private static final class Table {
        final int[] limits = new int[MAX_STEPS];
        final int[] rates = new int[MAX_STEPS];
        int steps;

        int addStep(int limit, int rate) {
            int last = steps > 0 ? limits[steps - 1] : 0;
            if (limit <= last || rate < 0 || rate > THOUSANDTHS) {
                return REFUSED;
            }
            if (steps == MAX_STEPS) {
                return FULL;
            }
            limits[steps] = limit;
            rates[steps] = rate;
            steps++;
            return steps;
        }

        int loseSteps() {
            int before = steps;
            steps = 0;
            return before;
        }

        long scaled(long x) {
            if (!Values.isInt(x)) {
                return Values.faultOf(x);
            }
            long thousandths = 0;
            long lower = 0;
            for (int s = 0; s < steps && lower < x; s++) {
                long upper = x < limits[s] ? x : limits[s];
                thousandths += (upper - lower) * rates[s];
                lower = limits[s];
            }
            return Values.rounded(thousandths, THOUSANDTHS);
        }
    }

    /** Nodes, definitions and tables, and a row in which the VALUES for one person are worked out. */
    private static final class Rules {
        final Nodes nodes = new Nodes();
        final int[] definitions = new int[DEFINITIONS];
        final Table[] tables = new Table[TABLES];
        final long[] worked = new long[MAX_NODES];

        Rules() {
            Arrays.fill(definitions, NO_NODE);
            for (int t = 0; t < TABLES; t++) {
                tables[t] = new Table();
            }
        }

        int definitionBits() {
            int bits = 0;
            for (int d = 0; d < DEFINITIONS; d++) {
                if (definitions[d] != NO_NODE) {
                    bits |= 1 << d;
                }
            }
            return bits;
        }

        /** Each node once: shared operands would else be worked out over and over. */
        void workOutFor(Person person) {
            for (int i = 0; i < nodes.made; i++) {
                int n = nodes.order[i];
                worked[n] = workedOut(n, person);
            }
        }

        long workedDefinition(int d) {
            return workedOrEmpty(definitions[d]);
        }

        private long workedOrEmpty(int n) {
            return n == NO_NODE ? EMPTY : worked[n];
        }

        private long workedOut(int n, Person person) {
            int kind = nodes.kinds[n];
            int a = nodes.as[n];
            int b = nodes.bs[n];
            int c = nodes.cs[n];
            switch (kind) {
                case NUMBER: return a;
                case INPUT: return person.inputs[a];
                case DEFINED: return workedDefinition(a);
                case PAID: return person.paidSoFar(a);
                case SHARE: return Values.share(worked[a], worked[b], worked[c]);
                case NOT: return Values.not(worked[a]);
                case BOTH: return Values.both(worked[a], worked[b]);
                case ANY: return Values.any(worked[a], worked[b]);
                case IF: return Values.choice(worked[a], worked[b], worked[c]);
                case NOTHING: return EMPTY;
                case DEFAULT: return Values.byDefault(workedOrEmpty(a), worked[b], worked[c]);
                case ALSO: return Values.also(worked[a], worked[b]);
                case SCALE: return tables[a].scaled(worked[b]);
                default: return Values.ofTwo(kind, worked[a], worked[b]);
            }
        }
    }

    private static final class Person {
        final int[] inputs = new int[INPUTS];
        long grossPaid;
        long taxPaid;
        boolean active;

        long paidSoFar(int what) {
            return what == GROSS ? grossPaid : taxPaid;
        }

        boolean paidIsInt() {
            return Values.isInt(grossPaid) && Values.isInt(taxPaid);
        }

        void grow(long gross, long tax) {
            grossPaid += gross;
            taxPaid += tax;
        }

        int reasonToHold(long gross, long tax, long net) {
            if (!Values.isInt(gross)) {
                return reasonOf(gross);
            }
            if (!Values.isInt(tax)) {
                return reasonOf(tax);
            }
            if (!Values.isInt(net)) {
                return reasonOf(net);
            }
            if (gross - tax != net) {
                return UNEVEN;
            }
            if (!Values.isInt(grossPaid + gross) || !Values.isInt(taxPaid + tax)) {
                return PAID_TOO_FAR;
            }
            return NOT_HELD;
        }

        private static int reasonOf(long x) {
            return (int) (Values.faultOf(x) - FAULT);
        }
    }

    /** The pay runs, with a place for each person's slip or the reason why it was held. */
    private static final class Runs {
        final long[] amounts = new long[MAX_RUNS * PERSONS * AMOUNTS];
        final int[] reasons = new int[MAX_RUNS * PERSONS];
        final boolean[] takenBack = new boolean[MAX_RUNS];
        int made;

        boolean has(int r) {
            return within(r, made);
        }

        boolean stands(int r) {
            return has(r) && !takenBack[r];
        }

        long amountOf(int r, int p, int what) {
            return amounts[placeOf(r, p) + what];
        }

        boolean hasSlip(int r, int p) {
            return amounts[placeOf(r, p)] != NONE;
        }

        private static int placeOf(int r, int p) {
            return (r * PERSONS + p) * AMOUNTS;
        }

        /** Before a run is made: a new one has zeros there, one done anew what it had before. */
        void wipe(int r, int p) {
            writeSlip(r, p, NONE, NONE, NONE);
            hold(r, p, NOT_HELD);
        }

        void writeSlip(int r, int p, long gross, long tax, long net) {
            int place = placeOf(r, p);
            amounts[place + GROSS] = gross;
            amounts[place + TAX] = tax;
            amounts[place + NET] = net;
        }

        void hold(int r, int p, int reason) {
            reasons[r * PERSONS + p] = reason;
        }

        int slipsOf(int r) {
            int slips = 0;
            for (int p = 0; p < PERSONS; p++) {
                if (hasSlip(r, p)) {
                    slips++;
                }
            }
            return slips;
        }

        int slipsStanding() {
            int slips = 0;
            for (int r = 0; r < made; r++) {
                if (!takenBack[r]) {
                    slips += slipsOf(r);
                }
            }
            return slips;
        }

        int howManyTakenBack() {
            int howMany = 0;
            for (int r = 0; r < made; r++) {
                if (takenBack[r]) {
                    howMany++;
                }
            }
            return howMany;
        }

        long totalOf(int what) {
            long total = 0;
            for (int r = 0; r < made; r++) {
                if (!takenBack[r]) {
                    total += totalOfRun(r, what);
                }
            }
            return total;
        }

        private long totalOfRun(int r, int what) {
            long total = 0;
            for (int p = 0; p < PERSONS; p++) {
                if (hasSlip(r, p)) {
                    total += amountOf(r, p, what);
                }
            }
            return total;
        }
    }
}
