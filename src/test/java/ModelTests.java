import java.util.Random;

/** The class beside the slow model: all pairs of jugs and of glasses, all sizes, and mixed runs. */
public final class ModelTests {
    private static final Due DUE = new Due();

    public static void main(String[] args) {
        allSizes();
        pairsOfJugs();
        glassesByThemselves();
        for (int run = 0; run < 150; run++) {
            mixedRun(run, 4, run % 3 == 0 ? 10 : 5, 120);
        }
        for (int run = 1000; run < 1006; run++) {
            mixedRun(run, 40, 10, 60);
        }
        for (int run = 2000; run < 2040; run++) {
            mixedRun(run, 6, 3, 60);
        }
        DUE.end();
    }

    private static void allSizes() {
        Model m = new Model();
        for (int k = -1; k <= 5; k++) {
            JugsAndGlasses x = new JugsAndGlasses();
            for (int b = -1; b <= 12; b++) {
                for (int i = -1; i <= 4; i++) {
                    DUE.is("sizes(" + k + ", " + b + ", " + i + ")", x.sizes(k, b, i), m.sizes(k, b, i));
                }
            }
        }
    }

    private static void pairsOfJugs() {
        for (int one = 1; one <= 10; one++) {
            for (int other = 1; other <= 10; other++) {
                for (int i = -1; i <= 2; i++) {
                    // An object for each i: of one for all, more than 512 calls would be asked.
                    JugsAndGlasses x = new JugsAndGlasses();
                    Model m = new Model();
                    String told = "jugs " + one + ", " + other + ": ";
                    DUE.is(told, x.jug(one, 0), m.jug(one, 0));
                    DUE.is(told, x.jug(other, 0), m.jug(other, 0));
                    DUE.is(told + "makes", x.makes(), m.makes());
                    DUE.is(told + "reaches", x.reaches(), m.reaches());
                    for (int v = 0; v <= 11; v++) {
                        ask(told + "(" + i + ", " + v + ") ", x, m, i, v);
                    }
                }
            }
        }
    }

    private static void ask(String told, JugsAndGlasses x, Model m, int i, int v) {
        DUE.is(told + "fewest", x.fewest(i, v), m.fewest(i, v));
        DUE.is(told + "rows", x.rows(i, v), m.rows(i, v));
        DUE.is(told + "road", x.road(i, v), m.road(i, v));
        int acts = m.sparing(i, v, 1);
        DUE.is(told + "sparing 0", x.sparing(i, v, 0), m.sparing(i, v, 0));
        DUE.is(told + "sparing 1", x.sparing(i, v, 1), acts);
        for (int n : new int[] {-1, 0, acts / 2, acts - 1, acts}) {
            DUE.is(told + "best " + n, x.best(i, v, n), m.best(i, v, n));
            DUE.is(told + "spare " + n, x.spare(i, v, n), m.spare(i, v, n));
        }
    }

    private static void glassesByThemselves() {
        for (int a = 0; a <= 12; a++) {
            for (int b = 0; b <= 12; b++) {
                compareGlasses(a, b, 0);
            }
        }
        int[][] threes = {{12, 12, 12}, {12, 11, 10}, {11, 7, 5}, {12, 9, 6}, {1, 2, 3}, {12, 11, 7}, {5, 8, 12},
            {10, 10, 3}, {12, 7, 12}, {9, 8, 7}, {1, 1, 12}, {2, 12, 4}, {3, 8, 10}, {7, 7, 9}, {7, 9, 11}};
        for (int[] three : threes) {
            compareGlasses(three[0], three[1], three[2]);
        }
    }

    /** Spans of 0 are left out. */
    private static void compareGlasses(int... spans) {
        JugsAndGlasses x = new JugsAndGlasses();
        Model m = new Model();
        StringBuilder told = new StringBuilder("glasses");
        for (int span : spans) {
            if (span > 0) {
                told.append(' ').append(span);
                DUE.is("glass", x.glass(span), m.glass(span));
            }
        }
        for (int s = 0; s <= 41; s++) {
            DUE.is(told + ": await(" + s + ")", x.await(s), m.await(s));
            DUE.is(told + ": turns(" + s + ")", x.turns(s), m.turns(s));
        }
        for (int w = -1; w <= 61; w++) {
            DUE.is(told + ": spans(" + w + ")", x.spans(w), m.spans(w));
        }
    }

    /** Calls with numbers a little beyond their bounds too; one of so many calls changes the jugs at all. */
    private static void mixedRun(int seed, int changeOneOf, int mostSize, int calls) {
        Random chance = new Random(seed);
        JugsAndGlasses x = new JugsAndGlasses();
        Model m = new Model();
        int jugs = seed < 1000 ? chance.nextInt(4) : seed < 2000 ? chance.nextInt(5) : 4;
        for (int k = 0; k < jugs; k++) {
            int size = 1 + chance.nextInt(mostSize);
            int holds = chance.nextInt(3) == 0 ? chance.nextInt(size + 1) : 0;
            DUE.is("jug", x.jug(size, holds), m.jug(size, holds));
        }
        for (int k = 0; k < calls; k++) {
            String told = "run " + seed + ", call " + k + ": ";
            if (chance.nextInt(changeOneOf) == 0) {
                change(told, x, m, chance, mostSize, seed < 1000 ? 3 : 4);
            } else {
                question(told, x, m, chance);
            }
        }
    }

    private static void change(String told, JugsAndGlasses x, Model m, Random chance, int mostSize, int mostJugs) {
        int a = chance.nextInt(13) - 1;
        int b = chance.nextInt(13) - 1;
        switch (chance.nextInt(12)) {
            case 0: case 1: {
                int size = a < 1 ? a : 1 + a % mostSize;
                if (m.count(0) < mostJugs || size < 1) {
                    DUE.is(told + "jug(" + size + ", " + b + ")", x.jug(size, b), m.jug(size, b));
                }
                break;
            }
            case 2: case 3:
                DUE.is(told + "set", x.set(a % 3, b % 2 == 0), m.set(a % 3, b % 2 == 0));
                break;
            case 4: case 5:
                DUE.is(told + "put", x.put(a % 5, b), m.put(a % 5, b));
                break;
            case 6:
                if (chance.nextInt(4) == 0) {
                    DUE.is(told + "clear", x.clear(), m.clear());
                }
                break;
            case 7:
                DUE.is(told + "glass", x.glass(a), m.glass(a));
                break;
            case 8:
                DUE.is(told + "smash", x.smash(), m.smash());
                break;
            default: {
                int act = chance.nextInt(26) - 1;
                DUE.is(told + "act(" + act + ")", x.act(act), m.act(act));
            }
        }
    }

    private static void question(String told, JugsAndGlasses x, Model m, Random chance) {
        int i = chance.nextInt(6) - 1;
        int v = chance.nextInt(12);
        int n = chance.nextInt(9) - 1;
        String aim = "(" + i + ", " + v + ", " + n + ")";
        switch (chance.nextInt(14)) {
            case 0: DUE.is(told + "fewest" + aim, x.fewest(i, v), m.fewest(i, v)); break;
            case 1: DUE.is(told + "rows" + aim, x.rows(i, v), m.rows(i, v)); break;
            case 2: DUE.is(told + "best" + aim, x.best(i, v, n), m.best(i, v, n)); break;
            case 3: DUE.is(told + "sparing" + aim, x.sparing(i, v, n % 3), m.sparing(i, v, n % 3)); break;
            case 4: DUE.is(told + "spare" + aim, x.spare(i, v, n), m.spare(i, v, n)); break;
            case 5: DUE.is(told + "makes", x.makes(), m.makes()); break;
            case 6: DUE.is(told + "reaches", x.reaches(), m.reaches()); break;
            case 7: DUE.is(told + "road" + aim, x.road(i, v), m.road(i, v)); break;
            case 8: DUE.is(told + "holds" + aim, x.holds(i), m.holds(i)); break;
            case 9: DUE.is(told + "count" + aim, x.count(i), m.count(i)); break;
            case 10: DUE.is(told + "await", x.await(v * 4), m.await(v * 4)); break;
            case 11: DUE.is(told + "turns", x.turns(v * 3), m.turns(v * 3)); break;
            case 12: DUE.is(told + "spans", x.spans(v * 6 - 1), m.spans(v * 6 - 1)); break;
            default: DUE.is(told + "sizes" + aim, x.sizes(i, v, n), m.sizes(i, v, n));
        }
    }
}
