import java.lang.management.ManagementFactory;
import java.util.Random;

/** What a run makes stays small, and no call throws or hangs, whatever its numbers are. */
public final class RoomTests {
    private static final Due DUE = new Due();
    private static final int CALLS = 512;

    public static void main(String[] args) {
        DUE.is("warm up", dearRun(), dearRun());
        DUE.is("warm up", growingRun(), growingRun());
        long before = allocated();
        dearRun();
        long bytes = allocated() - before;
        System.out.println("a dear run makes " + bytes + " bytes");
        // The room holds 7.3 million elements; a run that makes rows anew in each call would pass this by far.
        DUE.holds("a dear run makes at most 3000000 bytes", bytes > 0 && bytes <= 3000000);
        before = allocated();
        growingRun();
        bytes = allocated() - before;
        System.out.println("a growing run makes " + bytes + " bytes");
        DUE.holds("a growing run makes at most 3000000 bytes", bytes > 0 && bytes <= 3000000);
        before = allocated();
        JugsAndGlasses[] many = new JugsAndGlasses[CALLS];
        for (int k = 0; k < CALLS; k++) {
            many[k] = new JugsAndGlasses();
        }
        bytes = (allocated() - before) / CALLS;
        System.out.println("a new object makes " + bytes + " bytes");
        DUE.holds("a new object is small", bytes <= 4000);
        for (int seed = 0; seed < 40; seed++) {
            wildRun(seed);
        }
        DUE.end();
    }

    private static long allocated() {
        return ((com.sun.management.ThreadMXBean) ManagementFactory.getThreadMXBean())
            .getThreadAllocatedBytes(Thread.currentThread().getId());
    }

    /** As many changes as questions, of the most jugs and glasses. */
    private static long dearRun() {
        JugsAndGlasses x = new JugsAndGlasses();
        for (int i = 0; i < 4; i++) {
            x.jug(10 - i, 0);
        }
        long sum = 0;
        for (int k = 0; k < (CALLS - 4) / 8; k++) {
            x.put(k % 4, k % 8);
            sum += x.rows(k % 4, k % 11);
            sum += x.sparing(-1, k % 11, 0);
            x.smash();
            x.glass(12);
            x.glass(1 + k % 12);
            x.glass(1 + k / 12 % 12);
            sum += x.turns(1 + k % 40);
        }
        return sum;
    }

    /** Each set of jugs, and of glasses, has a little more ways to hold than the one before it. */
    private static long growingRun() {
        JugsAndGlasses x = new JugsAndGlasses();
        long sum = 0;
        for (int full = 0; full < 4; full++) {
            for (int size = 1; size <= 10; size++) {
                x.clear();
                for (int i = 0; i < full; i++) {
                    x.jug(10, 5);
                }
                x.jug(size, size / 2);
                sum += x.rows(-1, 1) + x.sparing(-1, 1, 0);
                x.smash();
                for (int i = 0; i < full; i++) {
                    x.glass(12 - i);
                }
                sum += x.await(size);
            }
        }
        return sum;
    }

    private static final int[] ODD = {Integer.MIN_VALUE, Integer.MIN_VALUE + 1, -1000, -3, -2, -1, 0, 1, 2, 3, 4, 5,
        7, 8, 10, 11, 12, 13, 23, 24, 40, 41, 60, 61, 63, 64, 1331, 14641, 1 << 20, Integer.MAX_VALUE - 1,
        Integer.MAX_VALUE};

    private static void wildRun(int seed) {
        Random chance = new Random(seed);
        JugsAndGlasses x = new JugsAndGlasses();
        for (int k = 0; k < CALLS; k++) {
            int a = ODD[chance.nextInt(ODD.length)];
            int b = ODD[chance.nextInt(ODD.length)];
            int c = ODD[chance.nextInt(ODD.length)];
            long got = anyCall(x, chance.nextInt(24), a, b, c);
            DUE.holds("run " + seed + ", call " + k + " answers " + got, got >= -4);
        }
    }

    private static long anyCall(JugsAndGlasses x, int which, int a, int b, int c) {
        switch (which) {
            case 0: return x.jug(a, b);
            case 1: return x.set(a, b > 0);
            case 2: return x.put(a, b);
            case 3: return x.holds(a);
            case 4: return x.act(a);
            case 5: return c == 0 ? x.clear() : x.jug(5, 0);
            case 6: return x.fewest(a, b);
            case 7: return x.rows(a, b);
            case 8: return x.best(a, b, c);
            case 9: return x.sparing(a, b, c);
            case 10: return x.spare(a, b, c);
            case 11: return x.makes();
            case 12: return x.reaches();
            case 13: return x.road(a, b);
            case 14: return x.sizes(a, b, c);
            case 15: return x.glass(a);
            case 16: return c == 0 ? x.smash() : x.glass(7);
            case 17: return x.await(a);
            case 18: return x.turns(a);
            case 19: return x.spans(a);
            case 20: return x.count(a);
            case 21: return x.best(-1, Math.floorMod(b, 11), c);
            case 22: return x.spare(-1, Math.floorMod(b, 11), c);
            default: return x.sparing(-1, Math.floorMod(b, 11), c);
        }
    }
}
