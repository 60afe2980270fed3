/** The bounds that the document names for jugs and acts, by promise (1 to 7): the last that is allowed, the first that is not. */
public final class JugEdgeTests {
    private static final Due DUE = new Due();
    private static final int BAD = Made.BAD, NOT = Made.NOT, FULL = Made.FULL, NONE = Made.NONE;

    public static void main(String[] args) {
        promise1NothingIsThere();
        promise1TapAndDrainAreThere();
        promise2SizeAndHolds();
        promise2OutOfBounds();
        promise2FourAtMost();
        promise3Ways();
        promise3WhatThereWas();
        promise4ZeroToSize();
        promise4NumbersOfJugs();
        promise5NumbersOfJugs();
        promise6WhichActsThereAre();
        promise6Fill();
        promise6Empty();
        promise6Pour();
        promise6BadGoesAheadOfNot();
        promise7Clear();
        for (int row = 0; row < 8; row++) {
            promise7SetAfterSet(row);
        }
        DUE.end();
    }

    private static void promise1NothingIsThere() {
        JugsAndGlasses x = new JugsAndGlasses();
        for (int what = 0; what <= 3; what++) {
            DUE.is("1: new, count(" + what + ")", x.count(what), 0);
        }
        for (int i = 0; i <= 3; i++) {
            DUE.is("1: new, holds(" + i + ")", x.holds(i), BAD);
            DUE.is("1: new, put(" + i + ", 0)", x.put(i, 0), BAD);
            DUE.is("1: new, fewest(" + i + ", 0)", x.fewest(i, 0), BAD);
            DUE.is("1: new, road(" + i + ", 1)", x.road(i, 1), BAD);
        }
        for (int a = 0; a <= 23; a++) {
            DUE.is("1: new, act(" + a + ")", x.act(a), BAD);
        }
        for (int v = 0; v <= 10; v++) {
            DUE.is("1: new, fewest(-1, " + v + ")", x.fewest(-1, v), NONE);
            DUE.is("1: new, rows(-1, " + v + ")", x.rows(-1, v), 0);
            DUE.is("1: new, best(-1, " + v + ", 0)", x.best(-1, v, 0), NONE);
            DUE.is("1: new, sparing(-1, " + v + ", 0)", x.sparing(-1, v, 0), NONE);
            DUE.is("1: new, sparing(-1, " + v + ", 1)", x.sparing(-1, v, 1), NONE);
            DUE.is("1: new, spare(-1, " + v + ", 0)", x.spare(-1, v, 0), NONE);
        }
        for (int s = 1; s <= 40; s++) {
            DUE.is("1: new, await(" + s + ")", x.await(s), NONE);
            DUE.is("1: new, turns(" + s + ")", x.turns(s), NONE);
        }
        DUE.is("1: new, makes()", x.makes(), 0);
        DUE.is("1: new, reaches()", x.reaches(), 1);
        DUE.is("1: new, spans(60)", x.spans(60), 0);
        DUE.is("1: new, clear()", x.clear(), 0);
        DUE.is("1: new, smash()", x.smash(), 0);
    }

    private static void promise1TapAndDrainAreThere() {
        DUE.is("1: a tap was there", new JugsAndGlasses().set(0, false), 1);
        DUE.is("1: a drain was there", new JugsAndGlasses().set(1, false), 1);
        DUE.is("1: the tap fills", Made.jugs(3).act(0), 3);
        DUE.is("1: the drain empties", Made.holding(new int[] {3}, 3).act(4), 3);
    }

    private static void promise2SizeAndHolds() {
        for (int size = 1; size <= 10; size++) {
            for (int holds = 0; holds <= size; holds++) {
                String told = "2: jug(" + size + ", " + holds + ")";
                JugsAndGlasses x = new JugsAndGlasses();
                DUE.is(told, x.jug(size, holds), 0);
                DUE.is(told + " holds", x.holds(0), holds);
                DUE.is(told + " has room", x.act(0), holds == size ? NOT : size - holds);
                DUE.is(told + " can hold its size", x.put(0, size), size);
                DUE.is(told + " cannot hold more", x.put(0, size + 1), BAD);
            }
            JugsAndGlasses y = new JugsAndGlasses();
            for (int holds : Made.outside(0, size)) {
                DUE.is("2: jug(" + size + ", " + holds + ")", y.jug(size, holds), BAD);
            }
            DUE.is("2: none of these is there", y.count(0), 0);
            DUE.is("2: and none has a number", y.jug(size, size), 0);
        }
    }

    private static void promise2OutOfBounds() {
        JugsAndGlasses x = new JugsAndGlasses();
        for (int size : Made.outside(1, 10)) {
            DUE.is("2: jug(" + size + ", 0)", x.jug(size, 0), BAD);
            DUE.is("2: jug(" + size + ", 1)", x.jug(size, 1), BAD);
            DUE.is("2: jug(" + size + ", as much)", x.jug(size, size), BAD);
            DUE.is("2: jug(" + size + ", one more)", x.jug(size, size + 1), BAD);
        }
        DUE.is("2: too large, and it holds what a jug can", x.jug(11, 10), BAD);
        DUE.is("2: none of these is there", x.count(0), 0);
        DUE.is("2: the first number is 0 then", x.jug(1, 0), 0);
        DUE.is("2: too small", x.jug(0, 0), BAD);
        DUE.is("2: the next number is 1 then", x.jug(10, 10), 1);
    }

    private static void promise2FourAtMost() {
        JugsAndGlasses x = new JugsAndGlasses();
        for (int round = 0; round < 2; round++) {
            for (int i = 0; i < 4; i++) {
                DUE.is("2: jug " + i + " in round " + round, x.jug(10 - i, i), i);
                DUE.is("2: so many are there", x.count(0), i + 1);
            }
            for (int size = 1; size <= 10; size++) {
                DUE.is("2: a fifth, empty", x.jug(size, 0), FULL);
                DUE.is("2: a fifth, full", x.jug(size, size), FULL);
                DUE.is("2: BAD goes ahead of FULL: too much", x.jug(size, size + 1), BAD);
                DUE.is("2: BAD goes ahead of FULL: too little", x.jug(size, -1), BAD);
            }
            for (int size : Made.outside(1, 10)) {
                DUE.is("2: BAD goes ahead of FULL: size " + size, x.jug(size, 0), BAD);
            }
            for (int i = 0; i < 4; i++) {
                DUE.is("2: jug " + i + " is as it was", x.holds(i), i);
            }
            DUE.is("2: four are there", x.count(0), 4);
            DUE.is("2: with room for four again", x.clear(), 4);
        }
    }

    private static void promise3Ways() {
        JugsAndGlasses x = Made.holding(new int[] {5}, 2);
        for (int way : Made.outside(0, 1)) {
            DUE.is("3: set(" + way + ", true)", x.set(way, true), BAD);
            DUE.is("3: set(" + way + ", false)", x.set(way, false), BAD);
        }
        DUE.is("3: fill and empty can be done", x.count(3), 2);
        DUE.is("3: set(0, false)", x.set(0, false), 1);
        DUE.is("3: set(1, false)", x.set(1, false), 1);
        for (int way : Made.outside(0, 1)) {
            DUE.is("3: set(" + way + ", true), neither is there", x.set(way, true), BAD);
        }
        DUE.is("3: neither can be done", x.count(3), 0);
        DUE.is("3: no tap came", x.set(0, true), 0);
        DUE.is("3: no drain came", x.set(1, true), 0);
    }

    /** All steps from one setting to another, and that the other way is left alone. */
    private static void promise3WhatThereWas() {
        for (int way = 0; way <= 1; way++) {
            JugsAndGlasses x = Made.holding(new int[] {5}, 2);
            boolean was = true;
            for (boolean on : new boolean[] {true, false, false, true, true}) {
                DUE.is("3: set(" + way + ", " + on + ")", x.set(way, on), was ? 1 : 0);
                DUE.is("3: acts that can be done", x.count(3), on ? 2 : 1);
                was = on;
            }
            DUE.is("3: take it away", x.set(way, false), 1);
            DUE.is("3: its act", x.act(4 * way), NOT);
            DUE.is("3: the other way's act", x.act(4 * (1 - way)), way == 0 ? 2 : 3);
            DUE.is("3: the other way is there", x.set(1 - way, true), 1);
        }
    }

    private static void promise4ZeroToSize() {
        for (int size = 1; size <= 10; size++) {
            JugsAndGlasses x = Made.with(false, false, Made.jugs(10, size));
            DUE.is("4: of " + size + ", put 0", x.put(1, 0), 0);
            DUE.is("4: of " + size + ", put the size", x.put(1, size), 0);
            for (int v : Made.outside(0, size)) {
                DUE.is("4: of " + size + ", put " + v, x.put(1, v), BAD);
            }
            DUE.is("4: of " + size + ", holds its size", x.holds(1), size);
            DUE.is("4: of " + size + ", put the same", x.put(1, size), size);
            DUE.is("4: of " + size + ", put 0 again", x.put(1, 0), size);
            DUE.is("4: of " + size + ", the other one is as it was", x.holds(0), 0);
        }
    }

    private static void promise4NumbersOfJugs() {
        for (int n = 0; n <= 4; n++) {
            JugsAndGlasses x = Made.number(n);
            for (int i : Made.outside(0, n - 1)) {
                DUE.is("4: of " + n + " jugs, put(" + i + ", 0)", x.put(i, 0), BAD);
                DUE.is("4: of " + n + " jugs, put(" + i + ", 1)", x.put(i, 1), BAD);
                DUE.is("4: of " + n + " jugs, put(" + i + ", -1)", x.put(i, -1), BAD);
            }
            DUE.is("4: nothing is held", x.count(2), 0);
            for (int i = 0; i < n; i++) {
                DUE.is("4: of " + n + " jugs, put(" + i + ", " + (i + 1) + ")", x.put(i, i + 1), 0);
            }
            DUE.is("4: that is held", x.count(2), n * (n + 1) / 2);
        }
        JugsAndGlasses x = Made.number(4);
        DUE.is("4: all go", x.clear(), 4);
        DUE.is("4: a jug that has gone", x.put(0, 0), BAD);
    }

    private static void promise5NumbersOfJugs() {
        for (int n = 0; n <= 4; n++) {
            JugsAndGlasses x = Made.number(n);
            for (int i = 0; i < n; i++) {
                DUE.is("5: put", x.put(i, 7 - i), 0);
            }
            for (int i : Made.outside(0, n - 1)) {
                DUE.is("5: of " + n + " jugs, holds(" + i + ")", x.holds(i), BAD);
            }
            for (int i = 0; i < n; i++) {
                DUE.is("5: of " + n + " jugs, holds(" + i + ")", x.holds(i), 7 - i);
            }
        }
        DUE.is("5: empty", Made.jugs(1).holds(0), 0);
        DUE.is("5: full", Made.holding(new int[] {10}, 10).holds(0), 10);
    }

    private static boolean isActOf(int n, int a) {
        for (int i = 0; i < n; i++) {
            for (int j = 0; j < n; j++) {
                if (a == i || a == 4 + i || i != j && a == 8 + 4 * i + j) {
                    return true;
                }
            }
        }
        return false;
    }

    /** Of empty jugs, half full and full ones: an act is BAD or not by the number of jugs alone. */
    private static void promise6WhichActsThereAre() {
        for (int n = 0; n <= 4; n++) {
            for (int holds = 0; holds <= 10; holds += 5) {
                for (int a = -30; a <= 60; a++) {
                    JugsAndGlasses x = new JugsAndGlasses();
                    for (int i = 0; i < n; i++) {
                        DUE.is("6: jug", x.jug(10, holds), i);
                    }
                    String told = "6: of " + n + " jugs that hold " + holds + ", act(" + a + ")";
                    int due = !isActOf(n, a) ? BAD : a < 4 ? 10 - holds : a < 8 ? holds : Math.min(holds, 10 - holds);
                    DUE.is(told, x.act(a), due == 0 ? NOT : due);
                    int now = n * holds + (due <= 0 || a >= 8 ? 0 : a < 4 ? due : -due);
                    DUE.is(told + ", all hold", x.count(2), now);
                }
            }
            JugsAndGlasses x = Made.number(n);
            for (int a : Made.outside(0, 23)) {
                DUE.is("6: of " + n + " jugs, act(" + a + ")", x.act(a), BAD);
            }
        }
    }

    private static void promise6Fill() {
        for (int i = 0; i < 4; i++) {
            int size = 10 - i;
            JugsAndGlasses x = Made.number(4);
            DUE.is("6: fill an empty one", x.act(i), size);
            DUE.is("6: fill a full one", x.act(i), NOT);
            DUE.is("6: one less", x.put(i, size - 1), size);
            DUE.is("6: no tap", x.set(0, false), 1);
            DUE.is("6: fill without a tap", x.act(i), NOT);
            DUE.is("6: a tap", x.set(0, true), 0);
            DUE.is("6: no drain", x.set(1, false), 1);
            DUE.is("6: fill one that lacks one, without a drain", x.act(i), 1);
            DUE.is("6: it is full", x.holds(i), size);
            DUE.is("6: the others are empty", x.count(2), size);
        }
    }

    private static void promise6Empty() {
        for (int i = 0; i < 4; i++) {
            int size = 10 - i;
            JugsAndGlasses x = Made.number(4);
            DUE.is("6: empty an empty one", x.act(4 + i), NOT);
            DUE.is("6: put one unit", x.put(i, 1), 0);
            DUE.is("6: empty one that holds one", x.act(4 + i), 1);
            DUE.is("6: it is empty", x.holds(i), 0);
            DUE.is("6: put all", x.put(i, size), 0);
            DUE.is("6: no drain", x.set(1, false), 1);
            DUE.is("6: empty without a drain", x.act(4 + i), NOT);
            DUE.is("6: a drain", x.set(1, true), 0);
            DUE.is("6: no tap", x.set(0, false), 1);
            DUE.is("6: empty a full one, without a tap", x.act(4 + i), size);
            DUE.is("6: empty again", x.act(4 + i), NOT);
        }
    }

    /** Every pair, with every amount in both: as many units as the one has, or the other has room for. */
    private static void promise6Pour() {
        int[] sizes = {4, 3, 2, 1};
        for (int i = 0; i < 4; i++) {
            for (int j = 0; j < 4; j++) {
                for (int has = 0; i != j && has <= sizes[i]; has++) {
                    for (int there = 0; there <= sizes[j]; there++) {
                        JugsAndGlasses x = Made.with(false, false, Made.jugs(sizes));
                        DUE.is("6: put", x.put(i, has), 0);
                        DUE.is("6: put", x.put(j, there), 0);
                        int units = Math.min(has, sizes[j] - there);
                        String told = "6: pour " + has + " of jug " + i + " to jug " + j + " with " + there;
                        DUE.is(told, x.act(8 + 4 * i + j), has == 0 || there == sizes[j] ? NOT : units);
                        DUE.is(told + ", from", x.holds(i), has - units);
                        DUE.is(told + ", to", x.holds(j), there + units);
                        DUE.is(told + ", together", x.count(2), has + there);
                    }
                }
            }
        }
    }

    private static void promise6BadGoesAheadOfNot() {
        JugsAndGlasses x = Made.with(false, false, Made.jugs(5, 3));
        DUE.is("6: fill a jug that is not there, no tap", x.act(2), BAD);
        DUE.is("6: fill a jug that is there, no tap", x.act(1), NOT);
        DUE.is("6: empty a jug that is not there, no drain", x.act(6), BAD);
        DUE.is("6: empty a jug that is there, no drain", x.act(5), NOT);
        DUE.is("6: pour an empty one to one that is not there", x.act(10), BAD);
        DUE.is("6: pour from one that is not there", x.act(16), BAD);
        DUE.is("6: pour an empty one to itself", x.act(8), BAD);
        DUE.is("6: pour an empty one to another", x.act(9), NOT);
        DUE.is("6: put", x.put(0, 3), 0);
        DUE.is("6: pour one that has room to itself", x.act(8), BAD);
        DUE.is("6: put", x.put(1, 3), 0);
        DUE.is("6: pour to a full one", x.act(9), NOT);
        DUE.is("6: pour a full one to itself", x.act(13), BAD);
    }

    private static void promise7Clear() {
        for (int n = 0; n <= 4; n++) {
            JugsAndGlasses x = Made.with(n % 2 == 0, n > 1, Made.number(n));
            DUE.is("7: glass", x.glass(4), 0);
            DUE.is("7: of " + n + " jugs, clear()", x.clear(), n);
            DUE.is("7: again", x.clear(), 0);
            for (int what = 0; what <= 3; what++) {
                DUE.is("7: count(" + what + ")", x.count(what), what == 1 ? 1 : 0);
            }
            for (int i = 0; i < 4; i++) {
                DUE.is("7: holds(" + i + ")", x.holds(i), BAD);
                DUE.is("7: act(" + i + ")", x.act(i), BAD);
            }
            DUE.is("7: fewest(-1, 0)", x.fewest(-1, 0), NONE);
            DUE.is("7: makes()", x.makes(), 0);
            DUE.is("7: reaches()", x.reaches(), 1);
            DUE.is("7: await(4)", x.await(4), 0);
            DUE.is("7: numbers from 0 again", x.jug(2, 1), 0);
            DUE.is("7: the tap is as it was", x.set(0, true), n % 2 == 0 ? 1 : 0);
            DUE.is("7: the drain is as it was", x.set(1, true), n > 1 ? 1 : 0);
            DUE.is("7: the new one alone", x.makes(), 7);
        }
    }

    /** One object that has set after set of jugs, small ones and large ones, answers of each as a new one does. */
    private static void promise7SetAfterSet(int row) {
        JugsAndGlasses x = new JugsAndGlasses();
        for (int k = 0; k < 32; k++) {
            int[] all = {1 + (3 * k + row) % 10, 1 + (7 * k + row) % 10, 10 - (k + row) % 4, 1 + (k * k + row) % 10};
            int[] set = java.util.Arrays.copyOf(all, 4 - (k * (row % 3)) % 5);
            JugsAndGlasses y = new JugsAndGlasses();
            for (int size : set) {
                DUE.is("7: jug", x.jug(size, k % 3 == 0 ? size / 2 : 0), y.jug(size, k % 3 == 0 ? size / 2 : 0));
            }
            String told = "7: set " + k + " of row " + row + ", ";
            int v = 1 + k % 10;
            DUE.is(told + "rows", x.rows(-1, v), y.rows(-1, v));
            DUE.is(told + "fewest", x.fewest(-1, v), y.fewest(-1, v));
            DUE.is(told + "best", x.best(-1, v, 2), y.best(-1, v, 2));
            DUE.is(told + "spilt", x.sparing(-1, v, 0), y.sparing(-1, v, 0));
            DUE.is(told + "acts", x.sparing(-1, v, 1), y.sparing(-1, v, 1));
            DUE.is(told + "spare", x.spare(-1, v, 2), y.spare(-1, v, 2));
            DUE.is(told + "acts now", x.count(3), y.count(3));
            DUE.is(told + "makes", x.makes(), y.makes());
            DUE.is(told + "reaches", x.reaches(), y.reaches());
            DUE.is(told + "clear", x.clear(), set.length);
        }
    }
}
