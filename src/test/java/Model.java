import java.math.BigInteger;
import java.util.ArrayList;
import java.util.HashMap;
import java.util.List;
import java.util.Map;
import java.util.TreeMap;

/**
 * The document told a second time and in another way, for comparison: sums are BigIntegers, what
 * is PAID is summed from the slips each time, and terms are worked out from the top down.
 */
final class Model {
    private static final BigInteger LEAST = BigInteger.valueOf(Integer.MIN_VALUE);
    private static final BigInteger GREATEST = BigInteger.valueOf(Integer.MAX_VALUE);

    private static final class Run {
        final Map<Integer, long[]> slips = new HashMap<>();
        final Map<Integer, Integer> held = new HashMap<>();
        boolean takenBack;
    }

    private final List<int[]> nodes = new ArrayList<>();
    private final TreeMap<Integer, Integer> definitions = new TreeMap<>();
    private final List<TreeMap<Integer, Integer>> tables = List.of(new TreeMap<>(), new TreeMap<>());
    private final int[][] inputs = new int[6][8];
    private final boolean[] active = new boolean[6];
    private final List<Run> runs = new ArrayList<>();
    private final Map<Integer, Long> known = new HashMap<>();

    private static boolean in(int x, int low, int high) {
        return low <= x && x <= high;
    }

    private boolean isNode(int n) {
        return in(n, 0, nodes.size() - 1);
    }

    private static List<Integer> nodeOperands(int[] node) {
        int kind = node[0];
        if (kind <= 3 || kind == 16) {
            return List.of();
        }
        if (kind == 12) {
            return List.of(node[1]);
        }
        if (kind == 19) {
            return List.of(node[2]);
        }
        if (kind == 17 && node[1] == -1) {
            return List.of(node[2], node[3]);
        }
        return kind == 11 || kind == 15 || kind == 17 ? List.of(node[1], node[2], node[3]) : List.of(node[1], node[2]);
    }

    private int level(int[] node) {
        int level = 1;
        for (int operand : nodeOperands(node)) {
            level = Math.max(level, 1 + level(nodes.get(operand)));
        }
        return level;
    }

    private int rank(int[] node) {
        int rank = node[0] == 2 ? node[1] + 1 : 0;
        for (int operand : nodeOperands(node)) {
            rank = Math.max(rank, rank(nodes.get(operand)));
        }
        return rank;
    }

    int node(int kind, int a, int b, int c) {
        int[] node = {kind, a, b, c};
        if (!in(kind, 0, 19)) {
            return -1;
        }
        if ((kind == 1 || kind == 2) && !in(a, 0, 7) || (kind == 3 || kind == 19) && !in(a, 0, 1)) {
            return -1;
        }
        for (int operand : nodeOperands(node)) {
            if (!isNode(operand)) {
                return -1;
            }
        }
        if (level(node) > 10) {
            return -1;
        }
        if (nodes.size() == 70) {
            return -2;
        }
        nodes.add(node);
        return nodes.size() - 1;
    }

    int define(int d, int n) {
        if (!in(d, 0, 7) || !isNode(n) || rank(nodes.get(n)) > d) {
            return -1;
        }
        definitions.put(d, n);
        return 0;
    }

    int undefine(int d) {
        if (!in(d, 0, 7)) {
            return -1;
        }
        definitions.remove(d);
        return 0;
    }

    int step(int t, int limit, int rate) {
        if (!in(t, 0, 1) || limit < 1 || !in(rate, 0, 1000)) {
            return -1;
        }
        TreeMap<Integer, Integer> table = tables.get(t);
        if (!table.isEmpty() && table.lastKey() >= limit) {
            return -1;
        }
        if (table.size() == 5) {
            return -2;
        }
        table.put(limit, rate);
        return table.size();
    }

    int clear(int t) {
        if (!in(t, 0, 1)) {
            return -1;
        }
        int were = tables.get(t).size();
        tables.get(t).clear();
        return were;
    }

    int input(int p, int i, int x) {
        if (!in(p, 0, 5) || !in(i, 0, 7)) {
            return -1;
        }
        inputs[p][i] = x;
        return 0;
    }

    int activate(int p, boolean on) {
        if (!in(p, 0, 5)) {
            return -1;
        }
        active[p] = on;
        return 0;
    }

    long value(int p, int n) {
        if (!in(p, 0, 5) || !isNode(n) || paidIsNoInt(p)) {
            return Check.NONE;
        }
        known.clear();
        return worked(p, n);
    }

    private boolean paidIsNoInt(int p) {
        return !isInt(paid(p, 0)) || !isInt(paid(p, 1));
    }

    private static boolean isInt(long x) {
        return x == (int) x;
    }

    private long worked(int p, int n) {
        Long before = known.get(n);
        if (before != null) {
            return before;
        }
        long result = workedAnew(p, nodes.get(n));
        known.put(n, result);
        return result;
    }

    private long workedAnew(int p, int[] node) {
        switch (node[0]) {
            case 0: return node[1];
            case 1: return inputs[p][node[1]];
            case 2: return definition(p, node[1]);
            case 3: return paid(p, node[1]);
            case 16: return Check.EMPTY;
            case 17: return withDefault(p, node);
            case 18: return also(worked(p, node[1]), worked(p, node[2]));
            default: return ofOperands(p, node);
        }
    }

    private long definition(int p, int d) {
        return definitions.containsKey(d) ? worked(p, definitions.get(d)) : Check.EMPTY;
    }

    private long withDefault(int p, int[] node) {
        long exception = node[1] == -1 ? Check.EMPTY : worked(p, node[1]);
        if (exception != Check.EMPTY) {
            return exception;
        }
        long condition = worked(p, node[2]);
        if (condition == Check.EMPTY) {
            return Check.MISSING;
        }
        if (condition > Check.NONE) {
            return condition;
        }
        return condition == 0 ? Check.EMPTY : worked(p, node[3]);
    }

    private static long also(long a, long b) {
        boolean faultA = a > RulePayroll.FAULT;
        boolean faultB = b > RulePayroll.FAULT;
        if (faultA || faultB) {
            return faultA ? a : b;
        }
        if (a == Check.EMPTY) {
            return b;
        }
        return b == Check.EMPTY ? a : Check.CONFLICT;
    }

    private long ofOperands(int p, int[] node) {
        int kind = node[0];
        List<Long> ints = new ArrayList<>();
        for (int operand : nodeOperands(node)) {
            if (kind == 15 && ints.size() == 1) {
                return worked(p, ints.get(0) != 0 ? node[2] : node[3]);
            }
            if (kind == 13 && ints.size() == 1 && ints.get(0) == 0) {
                return 0;
            }
            if (kind == 14 && ints.size() == 1 && ints.get(0) != 0) {
                return 1;
            }
            long x = worked(p, operand);
            if (!isInt(x)) {
                return x == Check.EMPTY ? Check.MISSING : x;
            }
            ints.add(x);
        }
        if (kind == 11 && ints.get(2) == 0) {
            return Check.ZERO;
        }
        BigInteger result = kind == 19 ? scale(tables.get(node[1]), ints.get(0)) : exactly(kind, ints);
        boolean range = result.compareTo(LEAST) < 0 || result.compareTo(GREATEST) > 0;
        return range ? Check.RANGE : result.longValue();
    }

    private static BigInteger exactly(int kind, List<Long> ints) {
        BigInteger a = BigInteger.valueOf(ints.get(0));
        BigInteger b = BigInteger.valueOf(ints.size() > 1 ? ints.get(1) : 0);
        switch (kind) {
            case 4: return a.add(b);
            case 5: return a.subtract(b);
            case 6: return a.multiply(b);
            case 7: return truth(a.compareTo(b) < 0);
            case 8: return truth(a.equals(b));
            case 9: return a.min(b);
            case 10: return a.max(b);
            case 11: return rounded(a.multiply(b), BigInteger.valueOf(ints.get(2)));
            case 12: return truth(a.signum() == 0);
            case 13: case 14: return truth(b.signum() != 0);
            default: throw new IllegalStateException("kind " + kind);
        }
    }

    private static BigInteger truth(boolean x) {
        return x ? BigInteger.ONE : BigInteger.ZERO;
    }

    /** A half more, rounded down, of what is above 0; and its mirror below. */
    private static BigInteger rounded(BigInteger number, BigInteger divisor) {
        BigInteger size = number.abs().shiftLeft(1).add(divisor.abs()).divide(divisor.abs().shiftLeft(1));
        return number.signum() * divisor.signum() < 0 ? size.negate() : size;
    }

    private static BigInteger scale(TreeMap<Integer, Integer> table, long x) {
        BigInteger thousandths = BigInteger.ZERO;
        long before = 0;
        for (Map.Entry<Integer, Integer> step : table.entrySet()) {
            long part = Math.max(0, Math.min(x, step.getKey()) - before);
            thousandths = thousandths.add(BigInteger.valueOf(part).multiply(BigInteger.valueOf(step.getValue())));
            before = step.getKey();
        }
        return rounded(thousandths, BigInteger.valueOf(1000));
    }

    int pay() {
        if (runs.size() == 16) {
            return -2;
        }
        Run run = madeRun();
        runs.add(run);
        return runs.size() - 1;
    }

    private Run madeRun() {
        Run run = new Run();
        for (int p = 0; p < 6; p++) {
            if (active[p]) {
                payInto(run, p);
            }
        }
        return run;
    }

    private void payInto(Run run, int p) {
        if (paidIsNoInt(p)) {
            run.held.put(p, 6);
            return;
        }
        known.clear();
        long[] amounts = new long[3];
        for (int d = 0; d < 3; d++) {
            amounts[d] = definition(p, d);
            if (!isInt(amounts[d])) {
                run.held.put(p, amounts[d] == Check.EMPTY ? 2 : (int) (amounts[d] - RulePayroll.FAULT));
                return;
            }
        }
        if (amounts[0] - amounts[1] != amounts[2]) {
            run.held.put(p, 5);
        } else if (!isInt(paid(p, 0) + amounts[0]) || !isInt(paid(p, 1) + amounts[1])) {
            run.held.put(p, 6);
        } else {
            run.slips.put(p, amounts);
        }
    }

    int back(int r) {
        if (!in(r, 0, runs.size() - 1) || runs.get(r).takenBack) {
            return -1;
        }
        runs.get(r).takenBack = true;
        return 0;
    }

    int again(int r) {
        if (r < 0 || r != runs.size() - 1 || runs.get(r).takenBack) {
            return -1;
        }
        runs.remove(r);
        runs.add(madeRun());
        return runs.get(r).slips.size();
    }

    long slip(int r, int p, int what) {
        if (!in(r, 0, runs.size() - 1) || !in(what, 0, 2) || !runs.get(r).slips.containsKey(p)) {
            return Check.NONE;
        }
        return runs.get(r).slips.get(p)[what];
    }

    int held(int r, int p) {
        if (!in(r, 0, runs.size() - 1) || !in(p, 0, 5)) {
            return -1;
        }
        return runs.get(r).held.getOrDefault(p, 0);
    }

    long account(int a) {
        if (!in(a, 0, 2)) {
            return Check.NONE;
        }
        long sum = 0;
        for (int p = 0; p < 6; p++) {
            sum += standing(p, a);
        }
        return a == 0 ? sum : -sum;
    }

    long paid(int p, int what) {
        return in(p, 0, 5) && in(what, 0, 1) ? standing(p, what) : Check.NONE;
    }

    private long standing(int p, int what) {
        long sum = 0;
        for (Run run : runs) {
            if (!run.takenBack && run.slips.containsKey(p)) {
                sum += run.slips.get(p)[what];
            }
        }
        return sum;
    }

    int count(int what) {
        int sum = 0;
        switch (what) {
            case 0: return nodes.size();
            case 1: return runs.size();
            case 2:
                for (Run run : runs) {
                    sum += run.takenBack ? 1 : 0;
                }
                return sum;
            case 3:
                for (Run run : runs) {
                    sum += run.takenBack ? 0 : run.slips.size();
                }
                return sum;
            case 4:
                for (boolean on : active) {
                    sum += on ? 1 : 0;
                }
                return sum;
            case 5: case 6: return tables.get(what - 5).size();
            case 7:
                for (int d : definitions.keySet()) {
                    sum += 1 << d;
                }
                return sum;
            default: return -1;
        }
    }
}
