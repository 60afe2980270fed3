import java.util.stream.IntStream;

/** The bounds that the document names for aims, roads and sizes, by promise (8 to 16). */
public final class AimEdgeTests {
    private static final Due DUE = new Due();
    private static final int BAD = Made.BAD, NOT = Made.NOT, NONE = Made.NONE, MIN = Made.MIN, MAX = Made.MAX;

    public static void main(String[] args) {
        for (int n = 0; n <= 4; n++) {
            promises8To12AimsOf(n);
        }
        promises8To12OfNone();
        promises8To12SomeJug();
        promises8To12CannotBeMade();
        promise8Fewest();
        promise9Rows();
        promise10Numbers();
        promise11Ways();
        promise11LeastIsSpilt();
        promise12Numbers();
        promise13Makes();
        promise14Reaches();
        promise15JustTwo();
        promise15Numbers();
        promise15WhereItEnds();
        promise16Sizes();
        promise16BadGoesAheadOfNone();
        DUE.end();
    }

    private static int[] aroundAndFar(int low, int high) {
        return IntStream.concat(IntStream.rangeClosed(low, high), IntStream.of(Made.outside(low, high))).toArray();
    }

    /** What is BAD of an aim, for every number of jugs; each i on an object of its own (512 calls). */
    private static void promises8To12AimsOf(int n) {
        for (int i : aroundAndFar(-1, n - 1)) {
            JugsAndGlasses x = Made.number(n);
            boolean thereIs = i >= -1 && i < n;
            for (int v : aroundAndFar(0, 10)) {
                aim(" of " + n + " jugs (" + i + ", " + v + ")", x, i, v, !thereIs || v < 0 || v > 10);
            }
        }
    }

    private static void aim(String told, JugsAndGlasses x, int i, int v, boolean bad) {
        badOrNot("8: fewest" + told, x.fewest(i, v), bad);
        badOrNot("9: rows" + told, x.rows(i, v), bad);
        badOrNot("10: best" + told, x.best(i, v, 0), bad);
        badOrNot("11: sparing" + told, x.sparing(i, v, 0), bad);
        badOrNot("12: spare" + told, x.spare(i, v, 0), bad);
        if (bad) {
            DUE.is("10: n below 0 too, best" + told, x.best(i, v, -1), BAD);
            DUE.is("11: of a wrong way too, sparing" + told, x.sparing(i, v, 2), BAD);
            DUE.is("12: n below 0 too, spare" + told, x.spare(i, v, -1), BAD);
        }
    }

    private static void badOrNot(String told, long got, boolean bad) {
        if (bad) {
            DUE.is(told, got, BAD);
        } else {
            DUE.holds(told + " answered " + got + ", due is NONE or more", got >= NONE);
        }
    }

    /** What stands already is made by the row of none, also where nothing can be done. */
    private static void promises8To12OfNone() {
        for (int way = 0; way < 4; way++) {
            JugsAndGlasses x = Made.with(way % 2 == 1, way > 1, Made.holding(new int[] {10, 6, 3, 1}, 10, 4, 0, 1));
            int[] held = {10, 4, 0, 1};
            for (int i = 0; i < 4; i++) {
                ofNone("(" + i + ", " + held[i] + ")", x, i, held[i]);
                ofNone("(-1, " + held[i] + ")", x, -1, held[i]);
            }
        }
    }

    private static void ofNone(String told, JugsAndGlasses x, int i, int v) {
        DUE.is("8: of none, fewest" + told, x.fewest(i, v), 0);
        DUE.is("9: of none, rows" + told, x.rows(i, v), 1);
        DUE.is("10: of none, best 0" + told, x.best(i, v, 0), NONE);
        DUE.is("10: of none, best -1" + told, x.best(i, v, -1), BAD);
        DUE.is("11: of none, spilt" + told, x.sparing(i, v, 0), 0);
        DUE.is("11: of none, acts" + told, x.sparing(i, v, 1), 0);
        DUE.is("12: of none, spare 0" + told, x.spare(i, v, 0), NONE);
        DUE.is("12: of none, spare -1" + told, x.spare(i, v, -1), BAD);
    }

    /** i of -1: each jug may be the one, the last too. */
    private static void promises8To12SomeJug() {
        for (int i = 0; i < 4; i++) {
            int[] sizes = {3, 3, 3, 3};
            sizes[i] = 10;
            JugsAndGlasses x = Made.jugs(sizes);
            String told = " by jug " + i + " alone";
            DUE.is("8: fewest" + told, x.fewest(-1, 10), 1);
            DUE.is("9: rows" + told, x.rows(-1, 10), 1);
            DUE.is("10: best" + told, x.best(-1, 10, 0), i);
            DUE.is("11: spilt" + told, x.sparing(-1, 10, 0), 0);
            DUE.is("11: acts" + told, x.sparing(-1, 10, 1), 1);
            DUE.is("12: spare" + told, x.spare(-1, 10, 0), i);
            DUE.is("8: any other one" + told, x.fewest((i + 1) % 4, 10), NONE);
        }
    }

    /** v beyond the size of the jug, or of all, is no wrong number up to 10; it cannot be made. */
    private static void promises8To12CannotBeMade() {
        for (int size = 1; size <= 9; size++) {
            JugsAndGlasses x = Made.jugs(10, size);
            DUE.is("8: the size of it", x.fewest(1, size), 1);
            for (int v : new int[] {size + 1, 10}) {
                cannot(" jug of " + size + " (1, " + v + ")", x, 1, v);
            }
            JugsAndGlasses alone = Made.jugs(size);
            DUE.is("8: some jug, the size of the only one", alone.fewest(-1, size), 1);
            cannot(" only jug of " + size + " (-1, 10)", alone, -1, 10);
            cannot(" only jug of " + size + " (-1, " + (size + 1) + ")", alone, -1, size + 1);
        }
        JugsAndGlasses dry = Made.with(false, true, Made.jugs(5, 3));
        cannot(" no tap (0, 5)", dry, 0, 5);
        JugsAndGlasses kept = Made.with(true, false, Made.holding(new int[] {5, 3}, 5, 3));
        cannot(" no drain, all full (-1, 0)", kept, -1, 0);
        cannot(" no drain, all full (0, 4)", kept, 0, 4);
        cannot(" no jugs (-1, 0)", new JugsAndGlasses(), -1, 0);
        cannot(" no jugs (-1, 10)", new JugsAndGlasses(), -1, 10);
    }

    private static void cannot(String told, JugsAndGlasses x, int i, int v) {
        DUE.is("8: cannot, fewest" + told, x.fewest(i, v), NONE);
        DUE.is("9: cannot, rows" + told, x.rows(i, v), 0);
        DUE.is("10: cannot, best 0" + told, x.best(i, v, 0), NONE);
        DUE.is("10: cannot, best MAX" + told, x.best(i, v, MAX), NONE);
        DUE.is("10: cannot, but BAD goes ahead, best -1" + told, x.best(i, v, -1), BAD);
        DUE.is("11: cannot, spilt" + told, x.sparing(i, v, 0), NONE);
        DUE.is("11: cannot, acts" + told, x.sparing(i, v, 1), NONE);
        DUE.is("11: cannot, but BAD goes ahead, sparing 2" + told, x.sparing(i, v, 2), BAD);
        DUE.is("11: cannot, but BAD goes ahead, sparing -1" + told, x.sparing(i, v, -1), BAD);
        DUE.is("12: cannot, spare 0" + told, x.spare(i, v, 0), NONE);
        DUE.is("12: cannot, spare MAX" + told, x.spare(i, v, MAX), NONE);
        DUE.is("12: cannot, but BAD goes ahead, spare -1" + told, x.spare(i, v, -1), BAD);
    }

    /** An act counts only if it can be done when it comes: not filling without a tap, nor emptying without a drain. */
    private static void promise8Fewest() {
        DUE.is("8: empty, one act", Made.holding(new int[] {5}, 3).fewest(0, 0), 1);
        DUE.is("8: fill, one act", Made.holding(new int[] {5}, 4).fewest(0, 5), 1);
        DUE.is("8: pour, one act", Made.holding(new int[] {5, 3}, 4, 2).fewest(0, 3), 1);
        DUE.is("8: no drain", Made.with(true, false, Made.holding(new int[] {5}, 3)).fewest(0, 0), NONE);
        DUE.is("8: no tap", Made.with(false, true, Made.holding(new int[] {5}, 4)).fewest(0, 5), NONE);
        DUE.is("8: no tap, by pouring", Made.with(false, true, Made.holding(new int[] {5, 5}, 2, 3)).fewest(0, 5), 1);
        DUE.is("8: no drain, by pouring", Made.with(true, false, Made.holding(new int[] {5, 5}, 2, 3)).fewest(0, 0), 1);
        DUE.is("8: no drain, pouring to a full one", Made.with(true, false,
            Made.holding(new int[] {5, 3}, 5, 3)).fewest(1, 0), NONE);
        DUE.is("8: v of 0", Made.holding(new int[] {10, 10}, 10, 10).fewest(-1, 0), 1);
        DUE.is("8: v of 10", Made.jugs(9, 10).fewest(-1, 10), 1);
        DUE.is("8: v of 10 in the smaller one", Made.jugs(9, 10).fewest(0, 10), NONE);
    }

    private static void promise9Rows() {
        JugsAndGlasses none = new JugsAndGlasses();
        DUE.is("9: BAD is -2", none.rows(0, 0), -2);
        DUE.is("9: cannot be made is 0, not NONE", none.rows(-1, 0), 0);
        DUE.is("9: one act, one row", Made.jugs(5).rows(0, 5), 1);
        DUE.is("9: two that can be filled", Made.jugs(5, 5, 3).rows(-1, 5), 2);
        DUE.is("9: for one jug", Made.jugs(5, 5, 3).rows(1, 5), 1);
        // No jugs have more rows than these (all were tried), so the bound of 10 to the 18th is never met.
        JugsAndGlasses most = Made.holding(new int[] {9, 9, 10, 10}, 9, 9, 0, 0);
        DUE.is("9: the most rows there are", most.rows(0, 4), 957198848);
        DUE.is("9: of so many acts", most.fewest(0, 4), 17);
    }

    private static void rowEnds(String told, JugsAndGlasses x, int i, int v, int... row) {
        for (int n = 0; n < row.length; n++) {
            DUE.is("10: " + told + ", best " + n, x.best(i, v, n), row[n]);
        }
        for (int n : new int[] {row.length, row.length + 1, 31, 32, 33, 255, 256, 65536, MAX - 1, MAX}) {
            if (n >= row.length) {
                DUE.is("10: " + told + ", best " + n, x.best(i, v, n), NONE);
            }
        }
        for (int n : new int[] {-1, -2, -256, -65536, MIN + 1, MIN}) {
            DUE.is("10: " + told + ", best " + n, x.best(i, v, n), BAD);
        }
    }

    private static void promise10Numbers() {
        JugsAndGlasses x = Made.jugs(5, 3);
        rowEnds("of none", x, 0, 0);
        rowEnds("of one act", x, 0, 5, 0);
        rowEnds("of six acts", x, 0, 4, 0, 9, 5, 9, 0, 9);
        rowEnds("cannot be made", x, 1, 4);
        // No aim needs more than 30 acts (all were tried).
        JugsAndGlasses longest = Made.with(true, false, Made.holding(new int[] {9, 9, 10}, 9, 0, 0));
        DUE.is("8: the longest", longest.fewest(2, 8), 30);
        DUE.is("9: the longest", longest.rows(2, 8), 128);
        DUE.holds("10: the longest, its last act", longest.best(2, 8, 29) >= 0);
        DUE.is("10: the longest, one more", longest.best(2, 8, 30), NONE);
        for (int n = 0; n < 30; n++) {
            DUE.holds("10: the longest, best " + n + " can be done", longest.act(longest.best(2, 8, 0)) > 0);
        }
        DUE.is("10: the longest has been done", longest.holds(2), 8);
        DUE.is("10: and nothing is left to do", longest.best(2, 8, 0), NONE);
    }

    private static void promise11Ways() {
        JugsAndGlasses x = Made.jugs(5, 3);
        DUE.is("11: way 0", x.sparing(0, 4, 0), 3);
        DUE.is("11: way 1", x.sparing(0, 4, 1), 6);
        for (int way : Made.outside(0, 1)) {
            DUE.is("11: way " + way, x.sparing(0, 4, way), BAD);
            DUE.is("11: of none, way " + way, x.sparing(0, 0, way), BAD);
            DUE.is("11: cannot be made, way " + way, x.sparing(1, 4, way), BAD);
        }
    }

    /** The least that is spilt goes first, the fewest acts only among those. */
    private static void promise11LeastIsSpilt() {
        JugsAndGlasses x = Made.holding(new int[] {10, 1}, 10, 0);
        DUE.is("11: at once, all ten", x.fewest(0, 0), 1);
        DUE.is("11: one unit less by the small one", x.sparing(0, 0, 0), 9);
        DUE.is("11: with one act more", x.sparing(0, 0, 1), 2);
        DUE.is("11: nothing is spilt by filling", x.sparing(1, 1, 0), 0);
        // Only what is emptied counts: pouring spills nothing, even to the last unit.
        JugsAndGlasses y = Made.holding(new int[] {5, 5}, 5, 0);
        DUE.is("11: poured, not spilt", y.sparing(0, 0, 0), 0);
        DUE.is("11: in one act", y.sparing(0, 0, 1), 1);
        JugsAndGlasses z = Made.holding(new int[] {10, 10, 10, 10}, 10, 10, 10, 10);
        DUE.is("11: the most that one act spills", z.sparing(3, 0, 0), 10);
        DUE.is("11: in one act", z.sparing(3, 0, 1), 1);
    }

    private static void spareEnds(String told, JugsAndGlasses x, int i, int v, int... row) {
        for (int n = 0; n < row.length; n++) {
            DUE.is("12: " + told + ", spare " + n, x.spare(i, v, n), row[n]);
        }
        for (int n : new int[] {row.length, row.length + 1, 31, 32, 33, 255, 256, 65536, MAX - 1, MAX}) {
            if (n >= row.length) {
                DUE.is("12: " + told + ", spare " + n, x.spare(i, v, n), NONE);
            }
        }
        for (int n : new int[] {-1, -2, -256, -65536, MIN + 1, MIN}) {
            DUE.is("12: " + told + ", spare " + n, x.spare(i, v, n), BAD);
        }
    }

    private static void promise12Numbers() {
        JugsAndGlasses x = Made.holding(new int[] {5, 3}, 5, 0);
        spareEnds("of none", x, 0, 5);
        spareEnds("of one act", x, 0, 2, 9);
        spareEnds("of two acts, where fewest have one", x, 0, 0, 9, 4);
        spareEnds("cannot be made", x, 1, 4);
        DUE.is("12: fewest have one", x.fewest(0, 0), 1);
    }

    private static void promise13Makes() {
        DUE.is("13: no jugs", new JugsAndGlasses().makes(), 0);
        for (int size = 1; size <= 10; size++) {
            for (int holds = 0; holds <= size; holds++) {
                JugsAndGlasses x = Made.holding(new int[] {size}, holds);
                DUE.is("13: one jug, 0, its size and what it holds", x.makes(), 1 | 1 << size | 1 << holds);
                DUE.is("13: no tap", x.set(0, false), 1);
                DUE.is("13: without a tap", x.makes(), 1 | 1 << holds);
                DUE.is("13: no drain", x.set(1, false), 1);
                DUE.is("13: without both", x.makes(), 1 << holds);
                DUE.is("13: a tap", x.set(0, true), 0);
                DUE.is("13: without a drain", x.makes(), 1 << size | 1 << holds);
            }
        }
        DUE.is("13: all of 0 to 10, and no bit above", Made.jugs(1, 10).makes(), 2047);
        DUE.is("13: four full ones, nothing can be done",
            Made.with(true, false, Made.holding(new int[] {10, 10, 10, 10}, 10, 10, 10, 10)).makes(), 1024);
    }

    private static void promise14Reaches() {
        DUE.is("14: no jugs, the row of none", new JugsAndGlasses().reaches(), 1);
        for (int n = 1; n <= 4; n++) {
            DUE.is("14: nothing can be done", Made.with(false, false, Made.number(n)).reaches(), 1);
            DUE.is("14: no tap, all empty", Made.with(false, true, Made.number(n)).reaches(), 1);
            int[] ones = new int[n];
            java.util.Arrays.fill(ones, 1);
            DUE.is("14: jugs of 1, all ways", Made.jugs(ones).reaches(), 1 << n);
        }
        DUE.is("14: the way that no row leads back to", Made.holding(new int[] {5}, 3).reaches(), 3);
        DUE.is("14: without a drain", Made.with(true, false, Made.holding(new int[] {5}, 3)).reaches(), 2);
        DUE.is("14: without a tap", Made.with(false, true, Made.holding(new int[] {5}, 3)).reaches(), 2);
        DUE.is("14: all ways of four", Made.jugs(10, 1, 1, 1).reaches(), 88);
        DUE.is("14: the most there are (all were tried)",
            Made.holding(new int[] {9, 10, 10, 10}, 1, 1, 1, 1).reaches(), 7479);
    }

    private static void promise15JustTwo() {
        for (int n = 0; n <= 4; n++) {
            JugsAndGlasses x = Made.number(n);
            for (int i = -1; i <= 4; i++) {
                boolean there = i >= 0 && i < n;
                String told = "15: of " + n + " jugs, road(" + i + ", ";
                DUE.is(told + "10)", x.road(i, 10), !there ? BAD : n != 2 ? NOT : i == 0 ? 1 : 4);
                DUE.is(told + "0): BAD goes ahead of NOT", x.road(i, 0), BAD);
                DUE.is(told + "11): BAD goes ahead of NOT", x.road(i, 11), BAD);
            }
            for (int i : Made.outside(0, n - 1)) {
                DUE.is("15: of " + n + " jugs, road(" + i + ", 5)", x.road(i, 5), BAD);
            }
        }
    }

    private static void promise15Numbers() {
        JugsAndGlasses x = Made.jugs(10, 1);
        for (int v : Made.outside(1, 10)) {
            DUE.is("15: road(0, " + v + ")", x.road(0, v), BAD);
            DUE.is("15: road(1, " + v + ")", x.road(1, v), BAD);
        }
        // From 10: filled, then 1 is poured off and emptied in turn. From 1: filled and poured, again and again.
        for (int v = 1; v <= 10; v++) {
            DUE.is("15: from 10, v " + v, x.road(0, v), v == 1 ? 2 : v == 10 ? 1 : 2 * (10 - v));
            DUE.is("15: from 1, v " + v, x.road(1, v), v == 1 ? 1 : 2 * v);
        }
    }

    /** It ends as soon as v is held by either one, or both are empty again; nothing of the true jugs counts. */
    private static void promise15WhereItEnds() {
        for (int size = 1; size <= 10; size++) {
            JugsAndGlasses x = Made.jugs(size, size);
            for (int v = 1; v <= 10; v++) {
                DUE.is("15: alike, of " + size + ", v " + v, x.road(0, v), v == size ? 1 : NONE);
                DUE.is("15: alike, from 1, of " + size + ", v " + v, x.road(1, v), v == size ? 1 : NONE);
            }
        }
        JugsAndGlasses x = Made.jugs(4, 2);
        DUE.is("15: the other one's size, by the first pouring", x.road(0, 2), 2);
        DUE.is("15: both are empty again ahead of 1", x.road(0, 1), NONE);
        DUE.is("15: both are empty again ahead of 3", x.road(1, 3), NONE);
        DUE.is("15: the last that comes ahead of that", x.road(1, 4), 4);
        JugsAndGlasses y = Made.with(false, false, Made.holding(new int[] {5, 3}, 4, 1));
        DUE.is("15: what is held does not end it", y.road(0, 4), 6);
        DUE.is("15: nor does it begin there", y.road(1, 1), 4);
        DUE.is("15: v beyond both", y.road(0, 6), NONE);
        DUE.is("15: the other one's size, by the second pouring", y.road(1, 5), 4);
    }

    private static void promise16Sizes() {
        for (int k = 1; k <= 3; k++) {
            JugsAndGlasses x = new JugsAndGlasses();
            for (int b = 1; b <= 10; b++) {
                int sum = 0;
                for (int i = 0; i < k; i++) {
                    int due = k == 1 && b > 1 ? NONE : i == k - 1 ? b : 1;
                    DUE.is("16: sizes(" + k + ", " + b + ", " + i + ")", x.sizes(k, b, i), due);
                    sum += due;
                }
                for (int i : Made.outside(0, k - 1)) {
                    DUE.is("16: sizes(" + k + ", " + b + ", " + i + ")", x.sizes(k, b, i), BAD);
                }
                DUE.is("16: the sum", sum, k == 1 && b > 1 ? NONE : b + k - 1);
            }
        }
    }

    private static void promise16BadGoesAheadOfNone() {
        JugsAndGlasses x = new JugsAndGlasses();
        for (int k : Made.outside(1, 3)) {
            DUE.is("16: sizes(" + k + ", 1, 0)", x.sizes(k, 1, 0), BAD);
            DUE.is("16: sizes(" + k + ", 10, 0)", x.sizes(k, 10, 0), BAD);
            DUE.is("16: sizes(" + k + ", 0, -1)", x.sizes(k, 0, -1), BAD);
        }
        for (int b : Made.outside(1, 10)) {
            for (int k = 1; k <= 3; k++) {
                DUE.is("16: sizes(" + k + ", " + b + ", 0)", x.sizes(k, b, 0), BAD);
                DUE.is("16: sizes(" + k + ", " + b + ", " + k + ")", x.sizes(k, b, k), BAD);
            }
        }
        DUE.is("16: none, and no such i", x.sizes(1, 2, 1), BAD);
        DUE.is("16: none, and no such i below", x.sizes(1, 2, -1), BAD);
        DUE.is("16: none", x.sizes(1, 2, 0), NONE);
    }
}
