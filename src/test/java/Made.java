import java.util.stream.IntStream;

/** Objects to ask, and numbers that are out of their bounds. */
final class Made {
    static final int NONE = -1, BAD = -2, NOT = -3, FULL = -4;
    static final int MIN = Integer.MIN_VALUE, MAX = Integer.MAX_VALUE;

    /** Far below, far above, and numbers that a narrower type would take for small ones. */
    private static final int[] FAR = {MIN, MIN + 1, MIN + 2, -(1 << 30), -65536, -65535, -256, -255, -100, 100, 127,
        128, 255, 256, 257, 258, 32768, 65535, 65536, 65537, 65538, 1 << 24, 1 << 30, MAX - 1, MAX};

    private Made() {
    }

    /** The first number that is too small, the first that is too large, and far ones. */
    static int[] outside(int low, int high) {
        return IntStream.concat(IntStream.of(low - 1, high + 1), IntStream.of(FAR))
            .filter(x -> x < low || x > high).toArray();
    }

    /** Jugs of these sizes, all empty. */
    static JugsAndGlasses jugs(int... sizes) {
        return holding(sizes, new int[sizes.length]);
    }

    /** So many jugs of 10, 9, 8, 7, all empty. */
    static JugsAndGlasses number(int jugs) {
        return jugs(IntStream.range(0, jugs).map(i -> 10 - i).toArray());
    }

    static JugsAndGlasses holding(int[] sizes, int... holds) {
        JugsAndGlasses x = new JugsAndGlasses();
        for (int i = 0; i < sizes.length; i++) {
            must(x.jug(sizes[i], holds[i]), i);
        }
        return x;
    }

    static JugsAndGlasses glasses(int... spans) {
        JugsAndGlasses x = new JugsAndGlasses();
        for (int i = 0; i < spans.length; i++) {
            must(x.glass(spans[i]), i);
        }
        return x;
    }

    /** The same object, with a tap and a drain only if told. */
    static JugsAndGlasses with(boolean tap, boolean drain, JugsAndGlasses x) {
        must(x.set(0, tap), 1);
        must(x.set(1, drain), 1);
        return x;
    }

    /** What is asked of an object that could not be made would say nothing. */
    private static void must(int got, int want) {
        if (got != want) {
            throw new IllegalStateException("an object to ask could not be made: " + got + ", due is " + want);
        }
    }
}
