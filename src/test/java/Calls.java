/** Calls told by numbers: a promise (2 to 22) and up to three arguments, of the class and of the model. */
final class Calls {
    private static final String[] NAMES = {"", "", "jug", "set", "put", "holds", "act", "clear", "fewest", "rows",
        "best", "sparing", "spare", "makes", "reaches", "road", "sizes", "glass", "smash", "await", "turns", "spans",
        "count"};
    private static final int[] ARGUMENTS = {0, 0, 2, 2, 2, 1, 1, 0, 2, 2, 3, 3, 3, 0, 0, 2, 3, 1, 0, 1, 1, 1, 1};

    private Calls() {
    }

    static int arguments(int promise) {
        return ARGUMENTS[promise];
    }

    static String told(int[] call) {
        StringBuilder told = new StringBuilder(call[0] + ": " + NAMES[call[0]] + "(");
        for (int k = 1; k <= ARGUMENTS[call[0]]; k++) {
            told.append(k == 1 ? "" : ", ").append(call[k]);
        }
        return told.append(")").toString();
    }

    static long ask(JugsAndGlasses x, int[] call) {
        int a = call[1];
        int b = call[2];
        int c = call[3];
        switch (call[0]) {
            case 2: return x.jug(a, b);
            case 3: return x.set(a, b > 0);
            case 4: return x.put(a, b);
            case 5: return x.holds(a);
            case 6: return x.act(a);
            case 7: return x.clear();
            case 8: return x.fewest(a, b);
            case 9: return x.rows(a, b);
            case 10: return x.best(a, b, c);
            case 11: return x.sparing(a, b, c);
            case 12: return x.spare(a, b, c);
            case 13: return x.makes();
            case 14: return x.reaches();
            case 15: return x.road(a, b);
            case 16: return x.sizes(a, b, c);
            case 17: return x.glass(a);
            case 18: return x.smash();
            case 19: return x.await(a);
            case 20: return x.turns(a);
            case 21: return x.spans(a);
            case 22: return x.count(a);
            default: throw new IllegalArgumentException("no promise " + call[0]);
        }
    }

    static long ask(Model x, int[] call) {
        int a = call[1];
        int b = call[2];
        int c = call[3];
        switch (call[0]) {
            case 2: return x.jug(a, b);
            case 3: return x.set(a, b > 0);
            case 4: return x.put(a, b);
            case 5: return x.holds(a);
            case 6: return x.act(a);
            case 7: return x.clear();
            case 8: return x.fewest(a, b);
            case 9: return x.rows(a, b);
            case 10: return x.best(a, b, c);
            case 11: return x.sparing(a, b, c);
            case 12: return x.spare(a, b, c);
            case 13: return x.makes();
            case 14: return x.reaches();
            case 15: return x.road(a, b);
            case 16: return x.sizes(a, b, c);
            case 17: return x.glass(a);
            case 18: return x.smash();
            case 19: return x.await(a);
            case 20: return x.turns(a);
            case 21: return x.spans(a);
            case 22: return x.count(a);
            default: throw new IllegalArgumentException("no promise " + call[0]);
        }
    }
}
