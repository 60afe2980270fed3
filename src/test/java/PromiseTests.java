/** Each promise by its number: ordinary calls, the edges that the document names, wrong calls. */
public final class PromiseTests {
    private static final Due DUE = new Due();
    private static final int NONE = -1, BAD = -2, NOT = -3, FULL = -4;

    public static void main(String[] args) {
        constants();
        promise1NewObject();
        promise2Jug();
        promise3Set();
        promise4Put();
        promise5Holds();
        promise6Act();
        promise7Clear();
        promise8Fewest();
        promise9Rows();
        promise10Best();
        promise11Sparing();
        promise12Spare();
        promise13Makes();
        promise14Reaches();
        promise15Road();
        promise16Sizes();
        promise17Glass();
        promise18Smash();
        promise19Await();
        promise20Turns();
        promise21Spans();
        promise22Count();
        DUE.end();
    }

    /** Jugs of these sizes, all empty. */
    private static JugsAndGlasses jugs(int... sizes) {
        JugsAndGlasses x = new JugsAndGlasses();
        for (int i = 0; i < sizes.length; i++) {
            DUE.is("jug(" + sizes[i] + ", 0)", x.jug(sizes[i], 0), i);
        }
        return x;
    }

    private static JugsAndGlasses glasses(int... spans) {
        JugsAndGlasses x = new JugsAndGlasses();
        for (int i = 0; i < spans.length; i++) {
            DUE.is("glass(" + spans[i] + ")", x.glass(spans[i]), i);
        }
        return x;
    }

    private static void rowIs(String which, int[] got, int... want) {
        for (int n = 0; n < want.length; n++) {
            DUE.is(which + " " + n, got[n], want[n]);
        }
    }

    private static int[] bestRow(JugsAndGlasses x, int i, int v, int length) {
        int[] row = new int[length];
        for (int n = 0; n < length; n++) {
            row[n] = x.best(i, v, n);
        }
        return row;
    }

    private static int[] spareRow(JugsAndGlasses x, int i, int v, int length) {
        int[] row = new int[length];
        for (int n = 0; n < length; n++) {
            row[n] = x.spare(i, v, n);
        }
        return row;
    }

    private static void constants() {
        DUE.is("NONE", JugsAndGlasses.NONE, NONE);
        DUE.is("BAD", JugsAndGlasses.BAD, BAD);
        DUE.is("NOT", JugsAndGlasses.NOT, NOT);
        DUE.is("FULL", JugsAndGlasses.FULL, FULL);
    }

    private static void promise1NewObject() {
        JugsAndGlasses x = new JugsAndGlasses();
        DUE.is("1: count(0)", x.count(0), 0);
        DUE.is("1: count(1)", x.count(1), 0);
        DUE.is("1: count(2)", x.count(2), 0);
        DUE.is("1: count(3)", x.count(3), 0);
        DUE.is("1: set(0)", x.set(0, true), 1);
        DUE.is("1: set(1)", x.set(1, true), 1);
        DUE.is("1: reaches()", x.reaches(), 1);
        JugsAndGlasses other = jugs(3);
        DUE.is("1: each has its own jugs", x.count(0) * 10 + other.count(0), 1);
    }

    private static void promise2Jug() {
        JugsAndGlasses x = new JugsAndGlasses();
        DUE.is("2: jug(0, 0)", x.jug(0, 0), BAD);
        DUE.is("2: jug(11, 0)", x.jug(11, 0), BAD);
        DUE.is("2: jug(-1, -1)", x.jug(-1, -1), BAD);
        DUE.is("2: jug(4, -1)", x.jug(4, -1), BAD);
        DUE.is("2: jug(4, 5)", x.jug(4, 5), BAD);
        DUE.is("2: jug(max, min)", x.jug(Integer.MAX_VALUE, Integer.MIN_VALUE), BAD);
        DUE.is("2: none of them is there", x.count(0), 0);
        DUE.is("2: jug(1, 1)", x.jug(1, 1), 0);
        DUE.is("2: jug(10, 10)", x.jug(10, 10), 1);
        DUE.is("2: jug(10, 0)", x.jug(10, 0), 2);
        DUE.is("2: jug(7, 3)", x.jug(7, 3), 3);
        DUE.is("2: jug(7, 3) again", x.jug(7, 3), FULL);
        DUE.is("2: BAD goes ahead of FULL", x.jug(7, 8), BAD);
        DUE.is("2: holds(0)", x.holds(0), 1);
        DUE.is("2: holds(1)", x.holds(1), 10);
        DUE.is("2: holds(2)", x.holds(2), 0);
        DUE.is("2: holds(3)", x.holds(3), 3);
        DUE.is("2: count(0)", x.count(0), 4);
        JugsAndGlasses y = jugs(5);
        DUE.is("2: ahead of a jug more", y.makes(), 1 | 1 << 5);
        DUE.is("2: jug(3, 1)", y.jug(3, 1), 1);
        DUE.is("2: a jug more is seen", y.makes(), 63);
    }

    private static void promise3Set() {
        JugsAndGlasses x = jugs(5, 3);
        DUE.is("3: set(2, true)", x.set(2, true), BAD);
        DUE.is("3: set(-1, false)", x.set(-1, false), BAD);
        DUE.is("3: makes()", x.makes(), 63);
        DUE.is("3: set(0, false)", x.set(0, false), 1);
        DUE.is("3: fill without a tap", x.act(0), NOT);
        DUE.is("3: makes() without a tap", x.makes(), 1);
        DUE.is("3: set(0, false) again", x.set(0, false), 0);
        DUE.is("3: set(0, true)", x.set(0, true), 0);
        DUE.is("3: set(0, true) again", x.set(0, true), 1);
        DUE.is("3: fill", x.act(0), 5);
        DUE.is("3: set(1, false)", x.set(1, false), 1);
        DUE.is("3: empty without a drain", x.act(4), NOT);
        DUE.is("3: pour without a drain", x.act(9), 3);
        DUE.is("3: set(1, true)", x.set(1, true), 0);
        DUE.is("3: empty", x.act(5), 3);
    }

    private static void promise4Put() {
        JugsAndGlasses x = jugs(5, 3);
        DUE.is("4: put(0, 4)", x.put(0, 4), 0);
        DUE.is("4: put(0, 5)", x.put(0, 5), 4);
        DUE.is("4: put(0, 6)", x.put(0, 6), BAD);
        DUE.is("4: put(0, -1)", x.put(0, -1), BAD);
        DUE.is("4: put(1, 4)", x.put(1, 4), BAD);
        DUE.is("4: put(1, 3)", x.put(1, 3), 0);
        DUE.is("4: put(2, 0)", x.put(2, 0), BAD);
        DUE.is("4: put(-1, 0)", x.put(-1, 0), BAD);
        DUE.is("4: put(min, max)", x.put(Integer.MIN_VALUE, Integer.MAX_VALUE), BAD);
        DUE.is("4: holds(0)", x.holds(0), 5);
        DUE.is("4: holds(1)", x.holds(1), 3);
        DUE.is("4: fewest ahead", x.fewest(0, 2), 2);
        DUE.is("4: put(1, 0)", x.put(1, 0), 3);
        DUE.is("4: fewest behind", x.fewest(0, 2), 1);
    }

    private static void promise5Holds() {
        JugsAndGlasses x = jugs(5, 3);
        DUE.is("5: holds(-1)", x.holds(-1), BAD);
        DUE.is("5: holds(2)", x.holds(2), BAD);
        DUE.is("5: holds(max)", x.holds(Integer.MAX_VALUE), BAD);
        DUE.is("5: holds(1)", x.holds(1), 0);
        DUE.is("5: put(1, 2)", x.put(1, 2), 0);
        DUE.is("5: holds(1) then", x.holds(1), 2);
        DUE.is("5: holds(0)", x.holds(0), 0);
    }

    private static void promise6Act() {
        JugsAndGlasses x = jugs(8, 5, 3);
        int[] bad = {-1, 3, 7, 8, 11, 13, 15, 18, 19, 20, 21, 22, 23, 24, 100, Integer.MAX_VALUE, Integer.MIN_VALUE};
        for (int a : bad) {
            DUE.is("6: act(" + a + ")", x.act(a), BAD);
        }
        int[] not = {4, 5, 6, 9, 10, 12, 14, 16, 17};
        for (int a : not) {
            DUE.is("6: act(" + a + ") of empty jugs", x.act(a), NOT);
        }
        DUE.is("6: fill 0", x.act(0), 8);
        DUE.is("6: fill 0, full", x.act(0), NOT);
        DUE.is("6: pour 0 to 1", x.act(9), 5);
        DUE.is("6: pour 0 to 1, full", x.act(9), NOT);
        DUE.is("6: pour 1 to 2", x.act(14), 3);
        DUE.is("6: pour 2 to 0", x.act(16), 3);
        DUE.is("6: pour 1 to 2", x.act(14), 2);
        DUE.is("6: fill 2", x.act(2), 1);
        DUE.is("6: pour 2 to 1", x.act(17), 3);
        DUE.is("6: pour 0 to 1", x.act(9), 2);
        DUE.is("6: pour 0 to 2", x.act(10), 3);
        DUE.is("6: empty 0", x.act(4), 1);
        DUE.is("6: pour 1 to 0", x.act(12), 5);
        DUE.is("6: holds", x.holds(0) * 100 + x.holds(1) * 10 + x.holds(2), 503);
        JugsAndGlasses four = jugs(10, 9, 8, 7);
        DUE.is("6: fill 3", four.act(3), 7);
        DUE.is("6: pour 3 to 0", four.act(20), 7);
        DUE.is("6: pour 0 to 3", four.act(11), 7);
        DUE.is("6: pour 3 to 3", four.act(23), BAD);
        DUE.is("6: empty 3", four.act(7), 7);
        DUE.is("6: no jugs", new JugsAndGlasses().act(0), BAD);
        for (int i = 0; i < 4; i++) {
            everyActOf(i);
        }
    }

    /** Jugs of 10, 9, 8, 7 that hold 1, 2, 3, 4: no two acts do the same. */
    private static void everyActOf(int i) {
        actIs(i, 10 - i - (i + 1), -1, i);
        actIs(4 + i, i + 1, i, -1);
        for (int j = 0; j < 4; j++) {
            int a = 8 + 4 * i + j;
            if (i == j) {
                actIs(a, BAD, -1, -1);
            } else {
                actIs(a, Math.min(i + 1, 10 - j - (j + 1)), i, j);
            }
        }
    }

    private static void actIs(int a, int units, int from, int to) {
        JugsAndGlasses x = new JugsAndGlasses();
        for (int k = 0; k < 4; k++) {
            DUE.is("6: jug", x.jug(10 - k, k + 1), k);
        }
        DUE.is("6: of four jugs, act(" + a + ")", x.act(a), units);
        for (int k = 0; k < 4; k++) {
            int due = k + 1 - (k == from ? units : 0) + (k == to ? units : 0);
            DUE.is("6: behind act(" + a + "), holds(" + k + ")", x.holds(k), due);
        }
    }

    private static void promise7Clear() {
        JugsAndGlasses x = jugs(8, 5, 3);
        DUE.is("7: glass", x.glass(4), 0);
        DUE.is("7: fill", x.act(2), 3);
        DUE.is("7: set", x.set(0, false), 1);
        DUE.is("7: clear()", x.clear(), 3);
        DUE.is("7: clear() again", x.clear(), 0);
        DUE.is("7: holds(0)", x.holds(0), BAD);
        DUE.is("7: count(2)", x.count(2), 0);
        DUE.is("7: makes()", x.makes(), 0);
        DUE.is("7: reaches()", x.reaches(), 1);
        DUE.is("7: the glass stays", x.count(1), 1);
        DUE.is("7: a new one", x.jug(6, 2), 0);
        DUE.is("7: holds(0) then", x.holds(0), 2);
        DUE.is("7: the tap stays away", x.set(0, true), 0);
        DUE.is("7: reaches() then", x.reaches(), 3);
    }

    private static void promise8Fewest() {
        JugsAndGlasses x = jugs(5, 3);
        DUE.is("8: (-1, 4)", x.fewest(-1, 4), 6);
        DUE.is("8: (0, 4)", x.fewest(0, 4), 6);
        DUE.is("8: (1, 4): no room", x.fewest(1, 4), NONE);
        DUE.is("8: (-1, 0): of none", x.fewest(-1, 0), 0);
        DUE.is("8: (-1, 1)", x.fewest(-1, 1), 4);
        DUE.is("8: (1, 1)", x.fewest(1, 1), 4);
        DUE.is("8: (-1, 10)", x.fewest(-1, 10), NONE);
        DUE.is("8: (-1, 11)", x.fewest(-1, 11), BAD);
        DUE.is("8: (-1, -1)", x.fewest(-1, -1), BAD);
        DUE.is("8: (-2, 1)", x.fewest(-2, 1), BAD);
        DUE.is("8: (2, 1)", x.fewest(2, 1), BAD);
        DUE.is("8: nothing has changed", x.count(2), 0);
        DUE.is("8: no jugs", new JugsAndGlasses().fewest(-1, 0), NONE);
    }

    private static void promise9Rows() {
        JugsAndGlasses x = jugs(5, 3);
        DUE.is("9: (-1, 4)", x.rows(-1, 4), 1);
        DUE.is("9: (-1, 0): the row of none", x.rows(-1, 0), 1);
        DUE.is("9: (1, 4)", x.rows(1, 4), 0);
        DUE.is("9: (-1, 11)", x.rows(-1, 11), BAD);
        DUE.is("9: (2, 0)", x.rows(2, 0), BAD);
        DUE.is("9: (-2, 0)", x.rows(-2, 0), BAD);
        JugsAndGlasses alike = jugs(6, 6, 6, 6);
        DUE.is("9: four that can be filled", alike.rows(-1, 6), 4);
        DUE.is("9: one that can", alike.rows(2, 6), 1);
        JugsAndGlasses two = jugs(4, 4, 2);
        DUE.is("9: fewest(-1, 2)", two.fewest(-1, 2), 1);
        DUE.is("9: fill 2, pour to 0; fill 0, pour to 2", two.rows(0, 2), 2);
        DUE.is("9: no jugs", new JugsAndGlasses().rows(-1, 0), 0);
    }

    private static void promise10Best() {
        JugsAndGlasses x = jugs(5, 3);
        rowIs("10: (-1, 4)", bestRow(x, -1, 4, 7), 0, 9, 5, 9, 0, 9, NONE);
        rowIs("10: (1, 1)", bestRow(x, 1, 1, 5), 1, 12, 1, 12, NONE);
        DUE.is("10: n below 0", x.best(-1, 4, -1), BAD);
        DUE.is("10: n far beyond", x.best(-1, 4, Integer.MAX_VALUE), NONE);
        DUE.is("10: of none", x.best(-1, 0, 0), NONE);
        DUE.is("10: cannot be made", x.best(1, 4, 0), NONE);
        DUE.is("10: (2, 4)", x.best(2, 4, 0), BAD);
        DUE.is("10: (-1, 11)", x.best(-1, 11, 0), BAD);
        DUE.is("10: cannot be made, n below 0", x.best(1, 4, -1), BAD);
        rowIs("10: the first of two rows", bestRow(jugs(4, 4, 2), 0, 2, 3), 0, 10, NONE);
    }

    private static void promise11Sparing() {
        JugsAndGlasses x = jugs(5, 3);
        DUE.is("11: (-1, 4) spills", x.sparing(-1, 4, 0), 3);
        DUE.is("11: (-1, 4) acts", x.sparing(-1, 4, 1), 6);
        DUE.is("11: (-1, 0) spills", x.sparing(-1, 0, 0), 0);
        DUE.is("11: (-1, 0) acts", x.sparing(-1, 0, 1), 0);
        DUE.is("11: cannot be made", x.sparing(1, 4, 0), NONE);
        DUE.is("11: cannot be made, acts", x.sparing(1, 4, 1), NONE);
        DUE.is("11: way 2", x.sparing(-1, 4, 2), BAD);
        DUE.is("11: way -1", x.sparing(-1, 4, -1), BAD);
        DUE.is("11: (2, 1)", x.sparing(2, 1, 0), BAD);
        DUE.is("11: (-1, 11)", x.sparing(-1, 11, 0), BAD);
        // Emptying 0 at once spills 5; by pouring 3 into 1 ahead of that, 2 are spilt in one act more.
        DUE.is("11: fill 0", x.act(0), 5);
        DUE.is("11: fewest", x.fewest(0, 0), 1);
        DUE.is("11: less with more acts", x.sparing(0, 0, 0), 2);
        DUE.is("11: more acts with less", x.sparing(0, 0, 1), 2);
        JugsAndGlasses one = jugs(5);
        DUE.is("11: put", one.put(0, 3), 0);
        DUE.is("11: one jug can only be emptied", one.sparing(0, 0, 0), 3);
        DUE.is("11: in one act", one.sparing(0, 0, 1), 1);
        DUE.is("11: by filling nothing is spilt", one.sparing(0, 5, 0), 0);
        DUE.is("11: no drain", one.set(1, false), 1);
        DUE.is("11: then it cannot be made", one.sparing(0, 0, 0), NONE);
    }

    private static void promise12Spare() {
        JugsAndGlasses x = jugs(5, 3);
        rowIs("12: (-1, 4)", spareRow(x, -1, 4, 7), 0, 9, 5, 9, 0, 9, NONE);
        DUE.is("12: fill 0", x.act(0), 5);
        rowIs("12: (0, 0)", spareRow(x, 0, 0, 3), 9, 4, NONE);
        DUE.is("12: best is another", x.best(0, 0, 0), 4);
        DUE.is("12: n below 0", x.spare(0, 0, -1), BAD);
        DUE.is("12: n far beyond", x.spare(0, 0, Integer.MAX_VALUE), NONE);
        DUE.is("12: cannot be made", x.spare(1, 4, 0), NONE);
        DUE.is("12: (2, 4)", x.spare(2, 4, 0), BAD);
        DUE.is("12: (-1, -1)", x.spare(-1, -1, 0), BAD);
        DUE.is("12: of none", x.spare(0, 5, 0), NONE);
    }

    private static void promise13Makes() {
        DUE.is("13: no jugs", new JugsAndGlasses().makes(), 0);
        DUE.is("13: 5 and 3", jugs(5, 3).makes(), 63);
        DUE.is("13: 6 and 10", jugs(6, 10).makes(), 1 | 1 << 2 | 1 << 4 | 1 << 6 | 1 << 8 | 1 << 10);
        JugsAndGlasses x = jugs(9, 4);
        DUE.is("13: no drain", x.set(1, false), 1);
        DUE.is("13: makes() then", x.makes(), 825);
        DUE.is("13: put", x.put(0, 7), 0);
        DUE.is("13: what is held at first counts", x.makes() >> 7 & 1, 1);
    }

    private static void promise14Reaches() {
        DUE.is("14: 5 and 3", jugs(5, 3).reaches(), 16);
        DUE.is("14: one jug", jugs(7).reaches(), 2);
        DUE.is("14: four", jugs(10, 10, 10, 10).reaches(), 16);
        JugsAndGlasses x = jugs(5, 3);
        DUE.is("14: put 0", x.put(0, 2), 0);
        DUE.is("14: put 1", x.put(1, 1), 0);
        DUE.is("14: none leads back to the first", x.reaches(), 17);
        DUE.is("14: no tap", x.set(0, false), 1);
        DUE.is("14: no drain", x.set(1, false), 1);
        DUE.is("14: pouring alone", x.reaches(), 3);
    }

    private static void promise15Road() {
        JugsAndGlasses x = jugs(5, 3);
        DUE.is("15: (0, 4)", x.road(0, 4), 6);
        DUE.is("15: (1, 4)", x.road(1, 4), 8);
        DUE.is("15: (0, 5)", x.road(0, 5), 1);
        DUE.is("15: (0, 3)", x.road(0, 3), 2);
        DUE.is("15: (0, 6)", x.road(0, 6), NONE);
        DUE.is("15: (0, 10)", x.road(0, 10), NONE);
        DUE.is("15: (0, 0)", x.road(0, 0), BAD);
        DUE.is("15: (0, 11)", x.road(0, 11), BAD);
        DUE.is("15: (2, 4)", x.road(2, 4), BAD);
        DUE.is("15: (-1, 4)", x.road(-1, 4), BAD);
        DUE.is("15: no tap", x.set(0, false), 1);
        DUE.is("15: no drain", x.set(1, false), 1);
        DUE.is("15: what is held", x.put(0, 4), 0);
        DUE.is("15: none of that counts", x.road(0, 4), 6);
        DUE.is("15: and stays", x.holds(0), 4);
        DUE.is("15: a third jug", x.jug(1, 0), 2);
        DUE.is("15: not just two", x.road(0, 4), NOT);
        DUE.is("15: BAD goes ahead of NOT", x.road(3, 4), BAD);
        DUE.is("15: BAD goes ahead of NOT, v", x.road(0, 0), BAD);
        DUE.is("15: one jug", jugs(4).road(0, 4), NOT);
        DUE.is("15: no jug", new JugsAndGlasses().road(0, 4), BAD);
        DUE.is("15: alike", jugs(4, 4).road(1, 4), 1);
        DUE.is("15: alike, none", jugs(4, 4).road(1, 2), NONE);
    }

    private static void promise16Sizes() {
        JugsAndGlasses x = new JugsAndGlasses();
        DUE.is("16: (1, 1, 0)", x.sizes(1, 1, 0), 1);
        DUE.is("16: (1, 2, 0)", x.sizes(1, 2, 0), NONE);
        DUE.is("16: (1, 10, 0)", x.sizes(1, 10, 0), NONE);
        DUE.is("16: (2, 1, 1)", x.sizes(2, 1, 1), 1);
        DUE.is("16: (2, 7, 0)", x.sizes(2, 7, 0), 1);
        DUE.is("16: (2, 7, 1)", x.sizes(2, 7, 1), 7);
        DUE.is("16: (3, 10, 0)", x.sizes(3, 10, 0), 1);
        DUE.is("16: (3, 10, 1)", x.sizes(3, 10, 1), 1);
        DUE.is("16: (3, 10, 2)", x.sizes(3, 10, 2), 10);
        int[][] bad = {{0, 1, 0}, {4, 1, 0}, {-1, 1, 0}, {2, 0, 0}, {2, 11, 0}, {2, 5, -1}, {2, 5, 2}, {1, 2, 1},
            {3, 5, 3}, {Integer.MIN_VALUE, 1, Integer.MIN_VALUE}};
        for (int[] call : bad) {
            DUE.is("16: (" + call[0] + ", " + call[1] + ", " + call[2] + ")", x.sizes(call[0], call[1], call[2]), BAD);
        }
        JugsAndGlasses y = jugs(4, 4);
        DUE.is("16: no tap", y.set(0, false), 1);
        DUE.is("16: jugs that are there do not count", y.sizes(2, 5, 1), 5);
    }

    private static void promise17Glass() {
        JugsAndGlasses x = new JugsAndGlasses();
        DUE.is("17: glass(0)", x.glass(0), BAD);
        DUE.is("17: glass(13)", x.glass(13), BAD);
        DUE.is("17: glass(-5)", x.glass(-5), BAD);
        DUE.is("17: glass(1)", x.glass(1), 0);
        DUE.is("17: glass(12)", x.glass(12), 1);
        DUE.is("17: glass(12) again", x.glass(12), 2);
        DUE.is("17: glass(3)", x.glass(3), FULL);
        DUE.is("17: BAD goes ahead of FULL", x.glass(13), BAD);
        DUE.is("17: count(1)", x.count(1), 3);
        JugsAndGlasses y = glasses(4);
        DUE.is("17: ahead of a glass more", y.await(7), NONE);
        DUE.is("17: glass(7)", y.glass(7), 1);
        DUE.is("17: a glass more is seen", y.await(7), 0);
    }

    private static void promise18Smash() {
        JugsAndGlasses x = glasses(4, 7, 9);
        DUE.is("18: jug", x.jug(3, 1), 0);
        DUE.is("18: ahead", x.await(4), 0);
        DUE.is("18: smash()", x.smash(), 3);
        DUE.is("18: smash() again", x.smash(), 0);
        DUE.is("18: count(1)", x.count(1), 0);
        DUE.is("18: the jug stays", x.holds(0), 1);
        DUE.is("18: await(4)", x.await(4), NONE);
        DUE.is("18: glass(5)", x.glass(5), 0);
        DUE.is("18: await(5)", x.await(5), 0);
        DUE.is("18: await(4) then", x.await(4), NONE);
    }

    private static void promise19Await() {
        JugsAndGlasses x = glasses(7, 4);
        DUE.is("19: 9", x.await(9), 0);
        DUE.is("19: 3", x.await(3), 4);
        DUE.is("19: 1", x.await(1), 7);
        DUE.is("19: 40", x.await(40), 0);
        DUE.is("19: 0", x.await(0), BAD);
        DUE.is("19: 41", x.await(41), BAD);
        DUE.is("19: -1", x.await(-1), BAD);
        DUE.is("19: min", x.await(Integer.MIN_VALUE), BAD);
        DUE.is("19: one of 11 and one of 7", glasses(11, 7).await(1), 21);
        DUE.is("19: one glass, not a multiple", glasses(4).await(6), NONE);
        DUE.is("19: no glasses", new JugsAndGlasses().await(1), NONE);
        DUE.is("19: no glasses, BAD", new JugsAndGlasses().await(0), BAD);
    }

    private static void promise20Turns() {
        JugsAndGlasses x = glasses(7, 4);
        DUE.is("20: 9", x.turns(9), 5);
        DUE.is("20: 7", x.turns(7), 1);
        DUE.is("20: 3, both turned at first", x.turns(3), 2);
        DUE.is("20: 1", x.turns(1), 3);
        DUE.is("20: 8, the same twice", x.turns(8), 2);
        DUE.is("20: 0", x.turns(0), BAD);
        DUE.is("20: 41", x.turns(41), BAD);
        DUE.is("20: one glass, not a multiple", glasses(4).turns(6), NONE);
        DUE.is("20: forty times", glasses(1).turns(40), 40);
        DUE.is("20: the fewest of several ways to the same wait", glasses(3, 8, 10).turns(1), 4);
        DUE.is("20: that wait", glasses(3, 8, 10).await(1), 8);
    }

    private static void promise21Spans() {
        JugsAndGlasses x = glasses(7, 4);
        DUE.is("21: 0", x.spans(0), 2199023255440L);
        DUE.is("21: 3", x.spans(3), 2199023255440L);
        DUE.is("21: 4", x.spans(4) >> 3 & 1, 1);
        DUE.is("21: 6", x.spans(6) >> 1 & 1, 0);
        DUE.is("21: 7", x.spans(7), 2199023255550L);
        DUE.is("21: 60", x.spans(60), 2199023255550L);
        DUE.is("21: 61", x.spans(61), BAD);
        DUE.is("21: -1", x.spans(-1), BAD);
        DUE.is("21: no glasses", new JugsAndGlasses().spans(60), 0);
        DUE.is("21: 1 alone", glasses(1).spans(0), (1L << 41) - 2);
    }

    private static void promise22Count() {
        JugsAndGlasses x = jugs(5, 3);
        DUE.is("22: glass", x.glass(2), 0);
        DUE.is("22: jugs", x.count(0), 2);
        DUE.is("22: glasses", x.count(1), 1);
        DUE.is("22: held", x.count(2), 0);
        DUE.is("22: both can be filled", x.count(3), 2);
        DUE.is("22: 4", x.count(4), BAD);
        DUE.is("22: -1", x.count(-1), BAD);
        DUE.is("22: put 0", x.put(0, 2), 0);
        DUE.is("22: put 1", x.put(1, 1), 0);
        DUE.is("22: held then", x.count(2), 3);
        DUE.is("22: all acts", x.count(3), 6);
        DUE.is("22: no tap", x.set(0, false), 1);
        DUE.is("22: without filling", x.count(3), 4);
        DUE.is("22: no drain", x.set(1, false), 1);
        DUE.is("22: pouring alone", x.count(3), 2);
        JugsAndGlasses four = jugs(4, 4, 4, 4);
        for (int i = 0; i < 4; i++) {
            DUE.is("22: put", four.put(i, i + 1), 0);
        }
        DUE.is("22: of four, one full: 3 fill, 4 empty, 9 pour", four.count(3), 16);
        DUE.is("22: of four, held", four.count(2), 10);
    }
}
