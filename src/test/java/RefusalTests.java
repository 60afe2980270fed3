import java.util.ArrayList;
import java.util.List;

/**
 * Behind a refused call, and behind a question, all answers are as they were; behind a change, they are
 * the same whether questions were asked ahead of it or not. Objects are made by the same calls twice;
 * one is refused or asked something, and then both are asked for everything. Objects that are used in turns
 * know nothing of one another.
 */
public final class RefusalTests {
    private static final Due DUE = new Due();
    private static final int MOST_CALLS = 512;
    private static final int MIN = Made.MIN, MAX = Made.MAX;
    private static final int[] SINGLES = {MIN, -256, -2, -1, 0, 1, 2, 3, 4, 5, 6, 7, 8, 9, 10, 11, 12, 13, 14, 15, 16, 17,
        18, 19, 20, 21, 22, 23, 24, 28, 40, 41, 60, 61, 256, MAX};
    private static final int[] PAIRS = {MIN, -1, 0, 1, 2, 3, 4, 5, 10, 11, MAX};
    private static final int[] TRIPLES = {MIN, -1, 0, 1, 3, 4, 11, MAX};
    /** Each row makes an object: calls told by a promise and two arguments. */
    private static final int[][][] MAKERS = {
        {},
        {{2, 5, 2}, {2, 3, 1}, {17, 7, 0}},
        {{2, 6, 3}, {2, 4, 0}, {2, 3, 3}, {2, 1, 1}, {3, 1, 0}, {17, 7, 0}, {17, 4, 0}, {17, 9, 0}},
        {{2, 10, 0}, {2, 4, 2}, {2, 2, 2}, {3, 0, 0}, {17, 11, 0}, {17, 9, 0}},
        {{2, 3, 3}, {2, 3, 3}, {2, 3, 3}, {2, 3, 3}, {3, 0, 0}, {3, 1, 0}},
        {{2, 10, 10}, {17, 12, 0}},
        {{2, 5, 5}, {2, 3, 0}, {6, 9, 0}, {7, 0, 0}, {2, 6, 2}, {17, 5, 0}, {17, 2, 0}, {18, 0, 0}, {17, 3, 0}},
        {{2, 5, 0}, {2, 3, 0}, {17, 12, 0}, {17, 1, 0}, {17, 12, 0}},
    };

    public static void main(String[] args) {
        for (int maker = 0; maker < MAKERS.length; maker++) {
            refusedChanges(maker);
            questions(maker);
            changesBehindQuestions(maker);
            last(maker);
            for (int other = 0; other < MAKERS.length; other++) {
                sideBySide(maker, other);
            }
        }
        DUE.end();
    }

    private static int[] call(int promise, int... arguments) {
        int[] call = {promise, 0, 0, 0};
        System.arraycopy(arguments, 0, call, 1, arguments.length);
        return call;
    }

    private static JugsAndGlasses make(int maker) {
        JugsAndGlasses x = new JugsAndGlasses();
        for (int[] made : MAKERS[maker]) {
            DUE.holds("made by " + Calls.told(call(made[0], made[1], made[2])),
                Calls.ask(x, call(made[0], made[1], made[2])) >= 0);
        }
        return x;
    }

    private static Model model(int maker) {
        Model m = new Model();
        for (int[] made : MAKERS[maker]) {
            Calls.ask(m, call(made[0], made[1], made[2]));
        }
        return m;
    }

    /** Calls of a promise with numbers in and out of their bounds. */
    private static List<int[]> tries(int promise) {
        List<int[]> all = new ArrayList<>();
        int arguments = Calls.arguments(promise);
        int[] numbers = arguments == 1 ? SINGLES : arguments == 2 ? PAIRS : TRIPLES;
        if (arguments == 0) {
            all.add(call(promise));
        }
        for (int a : arguments > 0 ? numbers : new int[0]) {
            for (int b : arguments > 1 ? numbers : new int[1]) {
                for (int c : arguments > 2 ? numbers : new int[1]) {
                    all.add(call(promise, a, b, c));
                }
            }
        }
        return all;
    }

    private static boolean isRefusal(long answer) {
        return answer <= -2 && answer >= -4;
    }

    /** Each call that would change something and is refused, of an object that has been asked nothing, and of one that has. */
    private static void refusedChanges(int maker) {
        List<String> before = all(make(maker), 0);
        Model m = model(maker);
        int refused = 0;
        for (int promise : new int[] {2, 3, 4, 6, 17}) {
            for (int[] call : tries(promise)) {
                // The model is asked of a state that stays: what it does not refuse is asked of another one.
                long due = Calls.ask(m, call);
                if (!isRefusal(due)) {
                    m = model(maker);
                    continue;
                }
                refused++;
                for (int warm = 0; warm <= 1; warm++) {
                    JugsAndGlasses x = make(maker);
                    if (warm == 1) {
                        warmUp(x);
                    }
                    DUE.is("object " + maker + ", " + Calls.told(call), Calls.ask(x, call), due);
                    compare("object " + maker + ", behind " + Calls.told(call), all(x, 6), before);
                }
            }
        }
        DUE.holds("calls were refused", refused > 100);
    }

    private static void warmUp(JugsAndGlasses x) {
        x.fewest(-1, 1);
        x.rows(-1, 1);
        x.sparing(-1, 1, 0);
        x.await(1);
    }

    /** Questions, refused or not, some after one another on the same object. */
    private static void questions(int maker) {
        List<String> before = all(make(maker), 0);
        Model m = model(maker);
        JugsAndGlasses x = make(maker);
        int asked = 0;
        for (int promise : new int[] {5, 8, 9, 10, 11, 12, 13, 14, 15, 16, 19, 20, 21, 22}) {
            for (int[] call : tries(promise)) {
                DUE.is("object " + maker + ", " + Calls.told(call), Calls.ask(x, call), Calls.ask(m, call));
                asked++;
                if (asked == 25) {
                    compare("object " + maker + ", behind 25 questions up to " + Calls.told(call), all(x, 25), before);
                    x = make(maker);
                    asked = 0;
                }
            }
        }
        compare("object " + maker + ", behind the last questions", all(x, 25), before);
    }

    /** Each call that changes something, with questions ahead of it and without. */
    private static void changesBehindQuestions(int maker) {
        int changes = 0;
        for (int promise : new int[] {2, 3, 4, 6, 7, 17, 18}) {
            for (int[] call : tries(promise)) {
                long due = Calls.ask(model(maker), call);
                if (isRefusal(due)) {
                    continue;
                }
                changes++;
                JugsAndGlasses asked = make(maker);
                warmUp(asked);
                JugsAndGlasses unasked = make(maker);
                String told = "object " + maker + ", " + Calls.told(call);
                DUE.is(told + " behind questions", Calls.ask(asked, call), due);
                DUE.is(told, Calls.ask(unasked, call), due);
                compare(told + " is seen", all(asked, 6), all(unasked, 1));
            }
        }
        DUE.holds("there were changes", changes > 5);
    }

    /** Two objects that are made and asked in turns answer as each does alone. */
    private static void sideBySide(int maker, int other) {
        JugsAndGlasses x = new JugsAndGlasses();
        JugsAndGlasses y = new JugsAndGlasses();
        for (int k = 0; k < MAKERS[maker].length || k < MAKERS[other].length; k++) {
            makeOne(x, maker, k);
            makeOne(y, other, k);
            warmUp(x);
            warmUp(y);
        }
        String told = "objects " + maker + " and " + other + " side by side";
        compare(told + ", the first", all(x, 50), all(make(maker), 0));
        compare(told + ", the second", all(y, 50), all(make(other), 0));
    }

    private static void makeOne(JugsAndGlasses x, int maker, int k) {
        if (k < MAKERS[maker].length) {
            int[] made = MAKERS[maker][k];
            DUE.holds("made in turns", Calls.ask(x, call(made[0], made[1], made[2])) >= 0);
        }
    }

    /** Refused calls up to the 511th; the 512th is answered as ever. */
    private static void last(int maker) {
        int[][] lasts = {{8, -1, 0}, {13, 0, 0}, {14, 0, 0}, {16, 2, 5}, {19, 40, 0}, {22, 3, 0}, {7, 0, 0}, {18, 0, 0}};
        for (int[] last : lasts) {
            int[] call = call(last[0], last[1], last[2]);
            JugsAndGlasses x = make(maker);
            for (int k = MAKERS[maker].length; k < MOST_CALLS - 1; k++) {
                int[] refused = k % 3 == 0 ? call(2, 11, 0) : k % 3 == 1 ? call(6, 24) : call(9, -2, 0);
                DUE.is("object " + maker + ", call " + k + ", " + Calls.told(refused), Calls.ask(x, refused), -2);
            }
            DUE.is("object " + maker + ", the 512th call, " + Calls.told(call), Calls.ask(x, call),
                Calls.ask(model(maker), call));
        }
    }

    /** All that can be asked of an object, told call by call; it is of no use then. */
    private static List<String> all(JugsAndGlasses x, int callsBefore) {
        List<String> told = new ArrayList<>();
        int jugs = x.count(0);
        for (int k = -1; k <= 4; k++) {
            tell(told, x, call(5, k));
            tell(told, x, call(22, k));
        }
        for (int i = -1; i < jugs; i++) {
            for (int v = 0; v <= 10; v++) {
                tell(told, x, call(8, i, v));
                tell(told, x, call(9, i, v));
                tell(told, x, call(10, i, v, 0));
                tell(told, x, call(11, i, v, v % 2));
                tell(told, x, call(12, i, v, 1));
            }
        }
        tell(told, x, call(13));
        tell(told, x, call(14));
        for (int v = 1; v <= 10; v++) {
            tell(told, x, call(15, v % 2, v));
        }
        for (int s = 1; s <= 40; s++) {
            tell(told, x, call(19, s));
            tell(told, x, call(20, s));
        }
        tell(told, x, call(21, 0));
        tell(told, x, call(21, 60));
        tellWhatIsHidden(told, x, jugs);
        DUE.holds("at most 512 calls: " + told.size(), told.size() + callsBefore + 12 <= MOST_CALLS);
        return told;
    }

    /** Sizes, tap and drain, and whether there is room, can only be told by changing them. */
    private static void tellWhatIsHidden(List<String> told, JugsAndGlasses x, int jugs) {
        for (int i = 0; i < jugs; i++) {
            for (int v = 1; v <= 10; v++) {
                tell(told, x, call(4, i, v));
            }
        }
        tell(told, x, call(3, 0, 1));
        tell(told, x, call(3, 1, 1));
        tell(told, x, call(2, 1, 0));
        tell(told, x, call(17, 1));
        tell(told, x, call(7));
        tell(told, x, call(18));
    }

    private static void tell(List<String> told, JugsAndGlasses x, int[] call) {
        told.add(Calls.told(call) + " answers " + Calls.ask(x, call));
    }

    private static void compare(String where, List<String> now, List<String> before) {
        DUE.is(where + ", as many answers", now.size(), before.size());
        for (int k = 0; k < now.size() && k < before.size(); k++) {
            if (!now.get(k).equals(before.get(k))) {
                DUE.holds(where + ", " + now.get(k) + ", and " + before.get(k) + " as it was", false);
                return;
            }
        }
    }
}
