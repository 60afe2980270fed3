import java.math.BigInteger;
import java.util.ArrayDeque;
import java.util.ArrayList;
import java.util.Collections;
import java.util.HashMap;
import java.util.HashSet;
import java.util.List;
import java.util.Map;
import java.util.Set;
import java.util.TreeMap;

/**
 * The document once more, written as slowly and as unlike the class as it could be: costs run
 * backward from the aim, rows are followed greedily, glasses go through maps moment by moment.
 */
final class Model {
    private static final long SPILL = 1000000L;
    private final List<Integer> size = new ArrayList<>();
    private List<Integer> held = new ArrayList<>();
    private final List<Integer> span = new ArrayList<>();
    private boolean tap = true;
    private boolean drain = true;

    private boolean noJug(int i) {
        return i < 0 || i >= size.size();
    }

    private boolean badAim(int i, int v) {
        return i != -1 && noJug(i) || v < 0 || v > 10;
    }

    int jug(int s, int h) {
        if (s < 1 || s > 10 || h < 0 || h > s) {
            return -2;
        }
        if (size.size() == 4) {
            return -4;
        }
        size.add(s);
        held = new ArrayList<>(held);
        held.add(h);
        return size.size() - 1;
    }

    int set(int way, boolean on) {
        boolean was;
        if (way == 0) {
            was = tap;
            tap = on;
        } else if (way == 1) {
            was = drain;
            drain = on;
        } else {
            return -2;
        }
        return was ? 1 : 0;
    }

    int put(int jug, int v) {
        if (noJug(jug) || v < 0 || v > size.get(jug)) {
            return -2;
        }
        held = new ArrayList<>(held);
        return held.set(jug, v);
    }

    int holds(int jug) {
        return noJug(jug) ? -2 : held.get(jug);
    }

    /** What the jugs hold behind each act that can be done. */
    private static TreeMap<Integer, List<Integer>> acts(List<Integer> size, List<Integer> at, boolean tap, boolean drain) {
        TreeMap<Integer, List<Integer>> found = new TreeMap<>();
        for (int i = 0; i < at.size(); i++) {
            if (tap && at.get(i) < size.get(i)) {
                List<Integer> next = new ArrayList<>(at);
                next.set(i, size.get(i));
                found.put(i, next);
            }
            if (drain && at.get(i) > 0) {
                List<Integer> next = new ArrayList<>(at);
                next.set(i, 0);
                found.put(4 + i, next);
            }
            for (int j = 0; j < at.size(); j++) {
                if (i != j && at.get(i) > 0 && at.get(j) < size.get(j)) {
                    List<Integer> next = new ArrayList<>(at);
                    while (next.get(i) > 0 && next.get(j) < size.get(j)) {
                        next.set(i, next.get(i) - 1);
                        next.set(j, next.get(j) + 1);
                    }
                    found.put(8 + 4 * i + j, next);
                }
            }
        }
        return found;
    }

    private TreeMap<Integer, List<Integer>> acts(List<Integer> at) {
        return acts(size, at, tap, drain);
    }

    private static int sum(List<Integer> of) {
        int sum = 0;
        for (int x : of) {
            sum += x;
        }
        return sum;
    }

    int act(int a) {
        boolean known = false;
        for (int i = 0; i < size.size(); i++) {
            known |= a == i || a == 4 + i;
            for (int j = 0; j < size.size(); j++) {
                known |= i != j && a == 8 + 4 * i + j;
            }
        }
        if (!known) {
            return -2;
        }
        List<Integer> next = acts(held).get(a);
        if (next == null) {
            return -3;
        }
        int went = 0;
        for (int i = 0; i < size.size(); i++) {
            went = Math.max(went, Math.abs(next.get(i) - held.get(i)));
        }
        held = next;
        return went;
    }

    int clear() {
        int were = size.size();
        size.clear();
        held = new ArrayList<>();
        return were;
    }

    private static Set<List<Integer>> reachable(List<Integer> size, List<Integer> from, boolean tap, boolean drain) {
        Set<List<Integer>> seen = new HashSet<>();
        ArrayDeque<List<Integer>> todo = new ArrayDeque<>();
        seen.add(from);
        todo.add(from);
        while (!todo.isEmpty()) {
            for (List<Integer> next : acts(size, todo.removeLast(), tap, drain).values()) {
                if (seen.add(next)) {
                    todo.add(next);
                }
            }
        }
        return seen;
    }

    private static boolean stands(List<Integer> at, int i, int v) {
        return i == -1 ? at.contains(v) : at.get(i) == v;
    }

    private static long price(int a, List<Integer> at, boolean spilling) {
        return 1 + (spilling && a >= 4 && a < 8 ? SPILL * at.get(a - 4) : 0);
    }

    /** From each way to hold the least price to the aim, by going over all of them until none changes. */
    private Map<List<Integer>, Long> costs(int i, int v, boolean spilling) {
        Map<List<Integer>, Map<Integer, List<Integer>>> graph = new HashMap<>();
        for (List<Integer> at : reachable(size, held, tap, drain)) {
            graph.put(at, acts(at));
        }
        Map<List<Integer>, Long> cost = new HashMap<>();
        for (List<Integer> at : graph.keySet()) {
            if (stands(at, i, v)) {
                cost.put(at, 0L);
            }
        }
        boolean changed = true;
        while (changed) {
            changed = false;
            for (Map.Entry<List<Integer>, Map<Integer, List<Integer>>> e : graph.entrySet()) {
                for (Map.Entry<Integer, List<Integer>> way : e.getValue().entrySet()) {
                    Long rest = cost.get(way.getValue());
                    if (rest == null) {
                        continue;
                    }
                    long whole = rest + price(way.getKey(), e.getKey(), spilling);
                    Long before = cost.get(e.getKey());
                    if (before == null || whole < before) {
                        cost.put(e.getKey(), whole);
                        changed = true;
                    }
                }
            }
        }
        return cost;
    }

    private List<Integer> firstRow(int i, int v, boolean spilling) {
        Map<List<Integer>, Long> cost = costs(i, v, spilling);
        if (cost.get(held) == null) {
            return null;
        }
        List<Integer> row = new ArrayList<>();
        List<Integer> at = held;
        while (cost.get(at) > 0) {
            for (Map.Entry<Integer, List<Integer>> way : acts(at).entrySet()) {
                Long rest = cost.get(way.getValue());
                if (rest != null && rest + price(way.getKey(), at, spilling) == cost.get(at)) {
                    row.add(way.getKey());
                    at = way.getValue();
                    break;
                }
            }
        }
        return row;
    }

    private BigInteger ways(List<Integer> at, Map<List<Integer>, Long> cost, Map<List<Integer>, BigInteger> told) {
        if (cost.get(at) == 0) {
            return BigInteger.ONE;
        }
        BigInteger sum = told.get(at);
        if (sum == null) {
            sum = BigInteger.ZERO;
            for (List<Integer> next : acts(at).values()) {
                if (cost.get(next) != null && cost.get(next) + 1 == cost.get(at)) {
                    sum = sum.add(ways(next, cost, told));
                }
            }
            told.put(at, sum);
        }
        return sum;
    }

    int fewest(int i, int v) {
        if (badAim(i, v)) {
            return -2;
        }
        Long cost = costs(i, v, false).get(held);
        return cost == null ? -1 : (int) (long) cost;
    }

    long rows(int i, int v) {
        if (badAim(i, v)) {
            return -2;
        }
        Map<List<Integer>, Long> cost = costs(i, v, false);
        if (cost.get(held) == null) {
            return 0;
        }
        return ways(held, cost, new HashMap<>()).min(BigInteger.TEN.pow(18)).longValueExact();
    }

    private static int actOf(List<Integer> row, int n) {
        return row == null || n >= row.size() ? -1 : row.get(n);
    }

    int best(int i, int v, int n) {
        return badAim(i, v) || n < 0 ? -2 : actOf(firstRow(i, v, false), n);
    }

    int sparing(int i, int v, int way) {
        if (badAim(i, v) || way != 0 && way != 1) {
            return -2;
        }
        Long cost = costs(i, v, true).get(held);
        return cost == null ? -1 : (int) (way == 0 ? cost / SPILL : cost % SPILL);
    }

    int spare(int i, int v, int n) {
        return badAim(i, v) || n < 0 ? -2 : actOf(firstRow(i, v, true), n);
    }

    private static int bits(Set<List<Integer>> all) {
        int bits = 0;
        for (List<Integer> at : all) {
            for (int v : at) {
                bits |= 1 << v;
            }
        }
        return bits;
    }

    int makes() {
        return bits(reachable(size, held, tap, drain));
    }

    int reaches() {
        return reachable(size, held, tap, drain).size();
    }

    int road(int i, int v) {
        if (noJug(i) || v < 1 || v > 10) {
            return -2;
        }
        if (size.size() != 2) {
            return -3;
        }
        int j = i == 0 ? 1 : 0;
        List<Integer> at = List.of(0, 0);
        int done = 0;
        while (true) {
            int a = at.get(j).equals(size.get(j)) ? 4 + j : at.get(i) == 0 ? i : 8 + 4 * i + j;
            at = acts(size, at, true, true).get(a);
            done++;
            if (at.contains(v)) {
                return done;
            }
            if (sum(at) == 0) {
                return -1;
            }
        }
    }

    private static void listSizes(int k, List<Integer> begun, List<List<Integer>> all) {
        if (begun.size() == k) {
            all.add(new ArrayList<>(begun));
            return;
        }
        int low = begun.isEmpty() ? 1 : begun.get(begun.size() - 1);
        for (int s = low; s <= 10; s++) {
            begun.add(s);
            listSizes(k, begun, all);
            begun.remove(begun.size() - 1);
        }
    }

    private static final Map<Integer, List<Integer>> SIZES = new HashMap<>();

    private static List<Integer> leastSizes(int k, int b) {
        List<List<Integer>> all = new ArrayList<>();
        listSizes(k, new ArrayList<>(), all);
        List<Integer> best = null;
        for (List<Integer> some : all) {
            int made = bits(reachable(some, Collections.nCopies(k, 0), true, true));
            boolean makesAll = true;
            for (int v = 1; v <= b; v++) {
                makesAll &= (made >> v & 1) == 1;
            }
            if (makesAll && (best == null || sum(some) < sum(best))) {
                best = some;
            }
        }
        return best == null ? List.of() : best;
    }

    int sizes(int k, int b, int i) {
        if (k < 1 || k > 3 || b < 1 || b > 10 || i < 0 || i >= k) {
            return -2;
        }
        List<Integer> found = SIZES.computeIfAbsent(k * 100 + b, key -> leastSizes(k, b));
        return found.isEmpty() ? -1 : found.get(i);
    }

    int glass(int s) {
        if (s < 1 || s > 12) {
            return -2;
        }
        if (span.size() == 3) {
            return -4;
        }
        span.add(s);
        return span.size() - 1;
    }

    int smash() {
        int were = span.size();
        span.clear();
        return were;
    }

    /** By time what can be above at an event then, with the fewest turned, from what is above at a time. */
    private List<Map<List<Integer>, Integer>> run(int from, Map<List<Integer>, Integer> first, int until) {
        List<Map<List<Integer>, Integer>> at = new ArrayList<>();
        for (int t = 0; t <= until; t++) {
            at.add(new HashMap<>());
        }
        at.get(from).putAll(first);
        for (int t = from; t <= until; t++) {
            for (Map.Entry<List<Integer>, Integer> e : at.get(t).entrySet()) {
                for (int choice = 0; choice < 1 << span.size(); choice++) {
                    List<Integer> above = new ArrayList<>(e.getKey());
                    int turned = e.getValue();
                    for (int g = 0; g < span.size(); g++) {
                        if ((choice >> g & 1) == 1) {
                            above.set(g, span.get(g) - above.get(g));
                            turned++;
                        }
                    }
                    int then = t;
                    boolean ranOut = sum(above) == 0;
                    boolean never = ranOut;
                    while (!ranOut) {
                        then++;
                        for (int g = 0; g < span.size(); g++) {
                            if (above.get(g) > 0) {
                                above.set(g, above.get(g) - 1);
                                ranOut |= above.get(g) == 0;
                            }
                        }
                    }
                    if (!never && then <= until) {
                        at.get(then).merge(above, turned, Math::min);
                    }
                }
            }
        }
        return at;
    }

    /** WAIT and TURNS by span; -1 both: none. */
    private int[][] waits() {
        int[][] found = new int[41][];
        List<Map<List<Integer>, Integer>> ahead = run(0, Map.of(Collections.nCopies(span.size(), 0), 0), 60);
        for (int wait = 0; wait <= 60; wait++) {
            if (ahead.get(wait).isEmpty()) {
                continue;
            }
            List<Map<List<Integer>, Integer>> behind = run(wait, ahead.get(wait), wait + 40);
            for (int s = 1; s <= 40; s++) {
                if (found[s] == null && !behind.get(wait + s).isEmpty()) {
                    found[s] = new int[] {wait, Collections.min(behind.get(wait + s).values())};
                }
            }
        }
        for (int s = 1; s <= 40; s++) {
            if (found[s] == null) {
                found[s] = new int[] {-1, -1};
            }
        }
        return found;
    }

    private static final Map<List<Integer>, int[][]> WAITS = new HashMap<>();

    private int[] waitOf(int s) {
        List<Integer> key = new ArrayList<>(span);
        int[][] told = WAITS.get(key);
        if (told == null) {
            told = waits();
            WAITS.put(key, told);
        }
        return told[s];
    }

    int await(int s) {
        return s < 1 || s > 40 ? -2 : waitOf(s)[0];
    }

    int turns(int s) {
        return s < 1 || s > 40 ? -2 : waitOf(s)[1];
    }

    long spans(int w) {
        if (w < 0 || w > 60) {
            return -2;
        }
        long bits = 0;
        for (int s = 1; s <= 40; s++) {
            if (waitOf(s)[0] != -1 && waitOf(s)[0] <= w) {
                bits |= 1L << s;
            }
        }
        return bits;
    }

    int count(int what) {
        switch (what) {
            case 0: return size.size();
            case 1: return span.size();
            case 2: return sum(held);
            case 3: return acts(held).size();
            default: return -2;
        }
    }
}
