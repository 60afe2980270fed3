import java.util.ArrayList;
import java.util.Arrays;
import java.util.HashSet;
import java.util.List;
import java.util.Set;

/**
 * The document's words taken one by one: all ROWS are listed act by act, all ways to turn event by event,
 * and what is due is read off the lists. Nothing here is worked out by a shorter way.
 */
public final class ListedTests {
    private static final Due DUE = new Due();
    private static final int ALL = 1000;

    public static void main(String[] args) {
        pairs();
        pouringAlone();
        fewJugs();
        shortRowsOfMany();
        glasses();
        DUE.end();
    }

    /** Jugs as the document tells them; what they hold is handed on from act to act. */
    private record Jugs(int[] size, boolean tap, boolean drain) {
        /** What is held behind an act; null: it cannot be done. */
        int[] behind(int[] held, int a) {
            int n = size.length;
            int[] then = held.clone();
            for (int i = 0; i < n; i++) {
                if (a == i && tap && held[i] < size[i]) {
                    then[i] = size[i];
                    return then;
                }
                if (a == 4 + i && drain && held[i] > 0) {
                    then[i] = 0;
                    return then;
                }
                for (int j = 0; j < n; j++) {
                    if (a == 8 + 4 * i + j && i != j && held[i] > 0 && held[j] < size[j]) {
                        int units = Math.min(held[i], size[j] - held[j]);
                        then[i] -= units;
                        then[j] += units;
                        return then;
                    }
                }
            }
            return null;
        }
    }

    /** What the list has for one aim. */
    private static final class Found {
        List<Integer> fewest;
        long rows;
        List<Integer> sparing;
        int spilt;

        void hear(List<Integer> row, int spiltByRow) {
            if (fewest == null || row.size() < fewest.size()) {
                fewest = List.copyOf(row);
                rows = 0;
            }
            if (row.size() == fewest.size()) {
                rows++;
                fewest = isAhead(row, fewest) ? List.copyOf(row) : fewest;
            }
            if (sparing == null || spiltByRow < spilt || spiltByRow == spilt && (row.size() < sparing.size()
                || row.size() == sparing.size() && isAhead(row, sparing))) {
                sparing = List.copyOf(row);
                spilt = spiltByRow;
            }
        }

        /** By the first act, then the second, and so on; both have as many. */
        private static boolean isAhead(List<Integer> one, List<Integer> other) {
            for (int n = 0; n < one.size(); n++) {
                if (!one.get(n).equals(other.get(n))) {
                    return one.get(n) < other.get(n);
                }
            }
            return false;
        }
    }

    /** All rows of up to so many acts on which no way to hold comes twice (such a one makes nothing sooner). */
    private static final class RowList {
        final Jugs jugs;
        final int mostActs;
        final Found[][] found;
        final Set<List<Integer>> ends = new HashSet<>();
        private final List<List<Integer>> passed = new ArrayList<>();
        private final List<Integer> row = new ArrayList<>();

        RowList(Jugs jugs, int[] held, int mostActs) {
            this.jugs = jugs;
            this.mostActs = mostActs;
            found = new Found[jugs.size.length + 1][11];
            for (Found[] some : found) {
                for (int v = 0; v <= 10; v++) {
                    some[v] = new Found();
                }
            }
            list(held, 0);
        }

        Found of(int i, int v) {
            return found[i + 1][v];
        }

        private void list(int[] held, int spilt) {
            List<Integer> now = Arrays.stream(held).boxed().toList();
            if (passed.contains(now)) {
                return;
            }
            hear(held, spilt);
            ends.add(now);
            if (row.size() == mostActs) {
                return;
            }
            passed.add(now);
            for (int a = 0; a < 24; a++) {
                int[] then = jugs.behind(held, a);
                if (then != null) {
                    row.add(a);
                    list(then, spilt + (a >= 4 && a < 8 ? held[a - 4] : 0));
                    row.remove(row.size() - 1);
                }
            }
            passed.remove(passed.size() - 1);
        }

        private void hear(int[] held, int spilt) {
            Set<Integer> some = new HashSet<>();
            for (int i = 0; i < held.length; i++) {
                of(i, held[i]).hear(row, spilt);
                if (some.add(held[i])) {
                    of(-1, held[i]).hear(row, spilt);
                }
            }
        }
    }

    private static JugsAndGlasses make(Jugs jugs, int[] held) {
        return Made.with(jugs.tap, jugs.drain, Made.holding(jugs.size, held));
    }

    /** Each aim's answers; an object for each, as one for all would be asked more than 512 calls. */
    private static void compare(Jugs jugs, int[] held, int mostActs) {
        RowList list = new RowList(jugs, held, mostActs);
        String told = Arrays.toString(jugs.size) + " with " + Arrays.toString(held)
            + (jugs.tap ? ", tap" : "") + (jugs.drain ? ", drain" : "");
        for (int i = -1; i < jugs.size.length; i++) {
            for (int v = 0; v <= 10; v++) {
                JugsAndGlasses x = make(jugs, held);
                String aim = told + ", (" + i + ", " + v + ")";
                compareFewest(aim, x, i, v, list);
                if (mostActs == ALL) {
                    compareSparing(aim, x, i, v, list.of(i, v));
                }
            }
        }
        if (mostActs == ALL) {
            compareEnds(told, make(jugs, held), list.ends);
        }
    }

    private static void compareFewest(String aim, JugsAndGlasses x, int i, int v, RowList list) {
        Found f = list.of(i, v);
        if (f.fewest == null) {
            int acts = x.fewest(i, v);
            DUE.holds("8: fewest" + aim + " answered " + acts + ", no row of so few is listed",
                acts == Made.NONE || acts > list.mostActs);
            return;
        }
        DUE.is("8: fewest" + aim, x.fewest(i, v), f.fewest.size());
        DUE.is("9: rows" + aim, x.rows(i, v), f.rows);
        for (int n = 0; n < f.fewest.size(); n++) {
            DUE.is("10: best " + n + aim, x.best(i, v, n), f.fewest.get(n));
        }
        DUE.is("10: best, one more" + aim, x.best(i, v, f.fewest.size()), Made.NONE);
    }

    private static void compareSparing(String aim, JugsAndGlasses x, int i, int v, Found f) {
        if (f.sparing == null) {
            DUE.is("9: rows" + aim, x.rows(i, v), 0);
            DUE.is("11: spilt" + aim, x.sparing(i, v, 0), Made.NONE);
            DUE.is("11: acts" + aim, x.sparing(i, v, 1), Made.NONE);
            DUE.is("12: spare 0" + aim, x.spare(i, v, 0), Made.NONE);
            return;
        }
        DUE.is("11: spilt" + aim, x.sparing(i, v, 0), f.spilt);
        DUE.is("11: acts" + aim, x.sparing(i, v, 1), f.sparing.size());
        for (int n = 0; n < f.sparing.size(); n++) {
            DUE.is("12: spare " + n + aim, x.spare(i, v, n), f.sparing.get(n));
        }
        DUE.is("12: spare, one more" + aim, x.spare(i, v, f.sparing.size()), Made.NONE);
    }

    private static void compareEnds(String told, JugsAndGlasses x, Set<List<Integer>> ends) {
        int bits = 0;
        for (List<Integer> end : ends) {
            for (int v : end) {
                bits |= 1 << v;
            }
        }
        DUE.is("13: makes " + told, x.makes(), bits);
        DUE.is("14: reaches " + told, x.reaches(), ends.size());
    }

    private static void allWays(int[] sizes, int... held) {
        for (int way = 0; way < 4; way++) {
            compare(new Jugs(sizes, way % 2 == 0, way < 2), held, ALL);
        }
    }

    private static void pairs() {
        for (int one = 1; one <= 10; one++) {
            for (int other = 1; other <= one; other++) {
                allWays(new int[] {one, other}, 0, 0);
                allWays(new int[] {other, one}, other / 2, one);
            }
        }
    }

    private static void pouringAlone() {
        int[][] sizes = {{8, 5, 3}, {10, 7, 3}, {9, 7, 4}, {5, 5, 5}, {4, 3, 2}, {10, 1, 1}};
        for (int[] some : sizes) {
            compare(new Jugs(some, false, false), new int[] {some[0], 0, 0}, ALL);
            compare(new Jugs(some, false, false), new int[] {some[0] - 1, 1, 1}, ALL);
        }
        compare(new Jugs(new int[] {3, 2, 1, 1}, false, false), new int[] {3, 0, 0, 0}, ALL);
    }

    /** None, one, and three and four so small that all rows can be listed. */
    private static void fewJugs() {
        allWays(new int[0]);
        for (int size = 1; size <= 10; size++) {
            allWays(new int[] {size}, 0);
            allWays(new int[] {size}, size);
            allWays(new int[] {size}, size / 2);
        }
        allWays(new int[] {1, 1, 1}, 0, 0, 0);
        compare(new Jugs(new int[] {2, 2, 1}, false, true), new int[] {2, 2, 1}, ALL);
        compare(new Jugs(new int[] {1, 3, 2}, false, true), new int[] {0, 3, 1}, ALL);
        compare(new Jugs(new int[] {1, 2, 2}, true, false), new int[] {0, 0, 0}, ALL);
    }

    private static void shortRowsOfMany() {
        compare(new Jugs(new int[] {8, 5, 3}, true, true), new int[] {0, 0, 0}, 6);
        compare(new Jugs(new int[] {5, 5, 2}, true, true), new int[] {1, 0, 2}, 6);
        compare(new Jugs(new int[] {10, 9, 8, 7}, true, true), new int[] {0, 0, 0, 0}, 5);
        compare(new Jugs(new int[] {4, 4, 4, 4}, true, true), new int[] {1, 2, 3, 4}, 5);
        compare(new Jugs(new int[] {9, 6, 10, 6}, true, false), new int[] {9, 0, 3, 6}, 5);
        compare(new Jugs(new int[] {3, 10, 5, 7}, false, true), new int[] {3, 10, 5, 0}, 5);
    }

    /** All ways to turn glasses, with all events up to a time. */
    private static final class EventList {
        private static final int MOST_EVENTS = 15000;
        final int[] span;
        final int until;
        final int[] wait = new int[41];
        final int[] turns = new int[41];
        private final List<Integer> times = new ArrayList<>();
        int events = 0;

        EventList(int[] span, int until) {
            this.span = span;
            this.until = until;
            Arrays.fill(wait, Made.NONE);
            Arrays.fill(turns, Made.NONE);
            event(0, new int[span.length], 0);
        }

        boolean isWhole() {
            return events <= MOST_EVENTS;
        }

        private void event(int time, int[] above, int turned) {
            events++;
            if (!isWhole()) {
                return;
            }
            for (int from : times) {
                hear(time - from, from, turned);
            }
            times.add(time);
            for (int choice = 0; choice < 1 << span.length; choice++) {
                turn(time, above.clone(), turned, choice);
            }
            times.remove(times.size() - 1);
        }

        private void hear(int s, int from, int turned) {
            if (s > 40) {
                return;
            }
            if (wait[s] == Made.NONE || from < wait[s] || from == wait[s] && turned < turns[s]) {
                wait[s] = from;
                turns[s] = turned;
            }
        }

        private void turn(int time, int[] above, int turned, int choice) {
            int more = 0;
            for (int g = 0; g < span.length; g++) {
                if ((choice >> g & 1) == 1) {
                    above[g] = span[g] - above[g];
                    more++;
                }
            }
            int first = Arrays.stream(above).filter(sand -> sand > 0).min().orElse(0);
            if (first == 0 || time + first > until) {
                return;
            }
            for (int g = 0; g < span.length; g++) {
                above[g] = Math.max(0, above[g] - first);
            }
            event(time + first, above, turned + more);
        }
    }

    /** The longest list that is not too long. */
    private static EventList listed(int... span) {
        EventList list = new EventList(span, 0);
        for (int until = 1; until <= 100; until++) {
            EventList next = new EventList(span, until);
            if (!next.isWhole()) {
                break;
            }
            list = next;
        }
        return list;
    }

    private static void compareGlasses(int... span) {
        EventList list = listed(span);
        JugsAndGlasses x = Made.glasses(span);
        String told = " of " + Arrays.toString(span);
        for (int s = 1; s <= 40; s++) {
            if (list.wait[s] != Made.NONE) {
                DUE.is("19: await(" + s + ")" + told, x.await(s), list.wait[s]);
                DUE.is("20: turns(" + s + ")" + told, x.turns(s), list.turns[s]);
            } else {
                int wait = x.await(s);
                DUE.holds("19: await(" + s + ")" + told + " answered " + wait + ", no such events are listed",
                    wait == Made.NONE || wait + s > list.until);
            }
        }
        for (int w = 0; w <= list.until; w++) {
            long bits = 0;
            long listedLater = 0;
            for (int s = 1; s <= 40; s++) {
                bits |= list.wait[s] != Made.NONE && list.wait[s] <= w ? 1L << s : 0;
                listedLater |= list.wait[s] == Made.NONE && w + s > list.until ? 1L << s : 0;
            }
            if (w <= 60) {
                DUE.is("21: spans(" + w + ")" + told, x.spans(w) & ~listedLater, bits);
            }
        }
    }

    private static void glasses() {
        compareGlasses();
        for (int one = 1; one <= 12; one++) {
            compareGlasses(one);
            for (int other = 1; other <= 12; other++) {
                compareGlasses(one, other);
            }
        }
        int[][] threes = {{12, 11, 10}, {12, 7, 4}, {3, 8, 10}, {9, 6, 12}, {5, 5, 7}, {1, 12, 6}, {2, 3, 5}};
        for (int[] three : threes) {
            compareGlasses(three);
        }
    }
}
