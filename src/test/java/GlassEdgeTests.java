/** The bounds that the document names for glasses, spans of time and counts, by promise (17 to 22). */
public final class GlassEdgeTests {
    private static final Due DUE = new Due();
    private static final int BAD = Made.BAD, FULL = Made.FULL, NONE = Made.NONE;
    private static final long ALL_SPANS = (1L << 41) - 2;

    public static void main(String[] args) {
        promise17Spans();
        promise17ThreeAtMost();
        promise18Smash();
        for (int row = 0; row < 8; row++) {
            promise18SetAfterSet(row);
        }
        promises19To21Bounds();
        promises19To21OneGlass();
        promises19And20WhatIsTurned();
        promises19To21LongestWait();
        promise21Bits();
        promise22WhatIsCounted();
        promise22Together();
        promise22ActsNow();
        DUE.end();
    }

    private static void promise17Spans() {
        for (int span = 1; span <= 12; span++) {
            JugsAndGlasses x = new JugsAndGlasses();
            DUE.is("17: glass(" + span + ")", x.glass(span), 0);
            DUE.is("17: it runs so long", x.turns(span), 1);
            DUE.is("17: and no less", x.await(span == 1 ? 40 : span - 1), span == 1 ? 0 : NONE);
        }
        JugsAndGlasses x = new JugsAndGlasses();
        for (int span : Made.outside(1, 12)) {
            DUE.is("17: glass(" + span + ")", x.glass(span), BAD);
        }
        DUE.is("17: none of these is there", x.count(1), 0);
        DUE.is("17: the first number is 0 then", x.glass(12), 0);
        DUE.is("17: too large", x.glass(13), BAD);
        DUE.is("17: the next number is 1 then", x.glass(1), 1);
    }

    private static void promise17ThreeAtMost() {
        JugsAndGlasses x = new JugsAndGlasses();
        for (int round = 0; round < 2; round++) {
            for (int i = 0; i < 3; i++) {
                DUE.is("17: glass " + i + " in round " + round, x.glass(12 - 2 * i), i);
                DUE.is("17: so many are there", x.count(1), i + 1);
            }
            long spans = x.spans(60);
            for (int span = 1; span <= 12; span++) {
                DUE.is("17: a fourth, of " + span, x.glass(span), FULL);
            }
            for (int span : Made.outside(1, 12)) {
                DUE.is("17: BAD goes ahead of FULL: " + span, x.glass(span), BAD);
            }
            DUE.is("17: three are there", x.count(1), 3);
            DUE.is("17: what they measure is as it was", x.spans(60), spans);
            DUE.is("17: with room for three again", x.smash(), 3);
        }
        JugsAndGlasses y = Made.number(4);
        DUE.is("17: four jugs take no room from glasses", y.glass(5), 0);
        DUE.is("17: a fifth jug", y.jug(5, 0), FULL);
        DUE.is("17: a second glass", y.glass(5), 1);
    }

    private static void promise18Smash() {
        for (int n = 0; n <= 3; n++) {
            JugsAndGlasses x = Made.with(n % 2 == 0, n > 1, Made.holding(new int[] {6}, 2));
            for (int i = 0; i < n; i++) {
                DUE.is("18: glass", x.glass(4 + i), i);
            }
            DUE.is("18: ahead", x.await(4), n == 0 ? NONE : 0);
            DUE.is("18: of " + n + " glasses, smash()", x.smash(), n);
            DUE.is("18: again", x.smash(), 0);
            DUE.is("18: count(1)", x.count(1), 0);
            for (int s = 1; s <= 40; s++) {
                DUE.is("18: await(" + s + ")", x.await(s), NONE);
                DUE.is("18: turns(" + s + ")", x.turns(s), NONE);
            }
            DUE.is("18: spans(60)", x.spans(60), 0);
            DUE.is("18: the jug stays", x.count(0), 1);
            DUE.is("18: and what it holds", x.holds(0), 2);
            DUE.is("18: numbers from 0 again", x.glass(9), 0);
            DUE.is("18: the new one alone", x.spans(60), 1L << 9 | 1L << 18 | 1L << 27 | 1L << 36);
            DUE.is("18: the tap is as it was", x.set(0, true), n % 2 == 0 ? 1 : 0);
            DUE.is("18: the drain is as it was", x.set(1, true), n > 1 ? 1 : 0);
        }
    }

    /** One object that has set after set of glasses answers of each as a new one does. */
    private static void promise18SetAfterSet(int row) {
        JugsAndGlasses x = new JugsAndGlasses();
        for (int k = 0; k < 38; k++) {
            int[] all = {12 - (k + row) % 5, 1 + (5 * k + row) % 12, 1 + (7 * k + 3 * row) % 12};
            int[] set = java.util.Arrays.copyOf(all, row < 4 ? 3 : 3 - k % 4);
            JugsAndGlasses y = Made.glasses(set);
            for (int span : set) {
                DUE.holds("18: glass", x.glass(span) >= 0);
            }
            String told = "18: set " + k + " of row " + row + ", ";
            for (int w : new int[] {0, 11, 60}) {
                DUE.is(told + "spans(" + w + ")", x.spans(w), y.spans(w));
            }
            for (int s = 1 + k % 8; s <= 40; s += 8) {
                DUE.is(told + "turns(" + s + ")", x.turns(s), y.turns(s));
            }
            DUE.is(told + "smash()", x.smash(), set.length);
        }
    }

    private static void promises19To21Bounds() {
        int[] spans = {1, 12, 7};
        for (int n = 0; n <= 3; n++) {
            JugsAndGlasses x = Made.glasses(java.util.Arrays.copyOf(spans, n));
            String told = " of " + n + " glasses";
            for (int s : Made.outside(1, 40)) {
                DUE.is("19: await(" + s + ")" + told, x.await(s), BAD);
                DUE.is("20: turns(" + s + ")" + told, x.turns(s), BAD);
            }
            for (int w : Made.outside(0, 60)) {
                DUE.is("21: spans(" + w + ")" + told, x.spans(w), -2);
            }
            DUE.is("19: await(1)" + told, x.await(1), n == 0 ? NONE : 0);
            DUE.is("19: await(40)" + told, x.await(40), n == 0 ? NONE : 0);
            DUE.is("20: turns(1)" + told, x.turns(1), n == 0 ? NONE : 1);
            // 40 is 40 of 1; 3 of 12 and 4 of 1; 1 of 12 and 4 of 7.
            DUE.is("20: turns(40)" + told, x.turns(40), n == 0 ? NONE : n == 1 ? 40 : n == 2 ? 7 : 5);
            for (int w = 0; w <= 60; w++) {
                DUE.is("21: spans(" + w + ")" + told, x.spans(w), n == 0 ? 0 : ALL_SPANS);
            }
        }
    }

    /** One glass, or two or three alike, measure its span again and again, from the first event on. */
    private static void promises19To21OneGlass() {
        for (int span = 1; span <= 12; span++) {
            for (int n = 1; n <= 2; n++) {
                JugsAndGlasses x = n == 1 ? Made.glasses(span) : Made.glasses(span, span);
                long bits = 0;
                for (int s = 1; s <= 40; s++) {
                    boolean can = s % span == 0;
                    String told = "(" + s + ") of " + n + " of " + span;
                    DUE.is("19: await" + told, x.await(s), can ? 0 : NONE);
                    DUE.is("20: turns" + told, x.turns(s), can ? s / span : NONE);
                    bits |= can ? 1L << s : 0;
                }
                DUE.is("21: spans(0) of " + n + " of " + span, x.spans(0), bits);
                DUE.is("21: spans(60) of " + n + " of " + span, x.spans(60), bits);
            }
        }
    }

    private static void promises19And20WhatIsTurned() {
        // At event 0 nothing is above: one that is not turned there does not run, and no event comes of itself.
        JugsAndGlasses x = Made.glasses(5, 3);
        DUE.is("20: at the end none need be turned", x.turns(5), 1);
        DUE.is("20: nor the other one at the beginning", x.turns(3), 1);
        DUE.is("19: 2, from the end of 3 to the end of 5", x.await(2), 3);
        DUE.is("20: what is turned ahead of the wait counts", x.turns(2), 2);
        DUE.is("19: 8 at once, one behind the other", x.await(8), 0);
        DUE.is("20: 8", x.turns(8), 2);
        // Both are turned at first; the one of 3, turned at 3, has 1 above at 5, and turned again, 2: they end at 7.
        DUE.is("19: 7 at once", x.await(7), 0);
        DUE.is("20: 7, two at first, the one of 3 at 3 and at 5", x.turns(7), 4);
        DUE.is("19: 1", x.await(1), 5);
        DUE.is("20: 1, two at first, the one of 3 again", x.turns(1), 3);
    }

    /** No glasses have a wait beyond 44 (all were tried): 45 is five of 9, 44 is four of 11. */
    private static void promises19To21LongestWait() {
        for (JugsAndGlasses x : new JugsAndGlasses[] {Made.glasses(11, 9), Made.glasses(9, 11)}) {
            DUE.is("19: the longest wait", x.await(1), 44);
            DUE.is("20: five turns and four", x.turns(1), 9);
            for (int w = 0; w <= 60; w++) {
                DUE.is("21: spans(" + w + "), bit 1", x.spans(w) >> 1 & 1, w >= 44 ? 1 : 0);
            }
        }
    }

    /** Bit s is there from the wait of s on, no later and no sooner, and no other bits ever are. */
    private static void promise21Bits() {
        int[][] sets = {{}, {12}, {7, 4}, {11, 8}, {12, 9, 6}, {11, 7, 5}};
        for (int[] set : sets) {
            JugsAndGlasses x = Made.glasses(set);
            int[] wait = new int[41];
            for (int s = 1; s <= 40; s++) {
                wait[s] = x.await(s);
            }
            for (int w = 0; w <= 60; w++) {
                long due = 0;
                for (int s = 1; s <= 40; s++) {
                    due |= wait[s] >= 0 && wait[s] <= w ? 1L << s : 0;
                }
                DUE.is("21: of " + java.util.Arrays.toString(set) + ", spans(" + w + ")", x.spans(w), due);
            }
            DUE.is("21: neither bit 0 nor any above 40", x.spans(60) & ~ALL_SPANS, 0);
        }
    }

    private static void promise22WhatIsCounted() {
        for (int n = 0; n <= 4; n++) {
            JugsAndGlasses x = Made.number(n);
            for (int i = 0; i < 3 && i < n; i++) {
                DUE.is("22: glass", x.glass(5), i);
            }
            for (int what : Made.outside(0, 3)) {
                DUE.is("22: count(" + what + ")", x.count(what), BAD);
            }
            DUE.is("22: jugs", x.count(0), n);
            DUE.is("22: glasses", x.count(1), Math.min(3, n));
            DUE.is("22: held by empty jugs", x.count(2), 0);
            DUE.is("22: empty jugs can all be filled", x.count(3), n);
        }
    }

    private static void promise22Together() {
        JugsAndGlasses x = Made.jugs(10, 10, 10, 10);
        for (int i = 0; i < 4; i++) {
            DUE.is("22: put", x.put(i, 10), 0);
            DUE.is("22: held together", x.count(2), 10 * (i + 1));
        }
        DUE.is("22: the most that can be held", x.count(2), 40);
        DUE.is("22: clear", x.clear(), 4);
        DUE.is("22: then nothing", x.count(2), 0);
    }

    /** Of four jugs: some empty, some in between, some full, with and without tap and drain. */
    private static void promise22ActsNow() {
        for (int empty = 0; empty <= 4; empty++) {
            for (int full = 0; empty + full <= 4; full++) {
                int between = 4 - empty - full;
                JugsAndGlasses x = new JugsAndGlasses();
                for (int i = 0; i < 4; i++) {
                    DUE.is("22: jug", x.jug(5, i < empty ? 0 : i < empty + full ? 5 : 1 + i), i);
                }
                String told = "22: " + empty + " empty, " + full + " full, acts now";
                int fill = 4 - full;
                int drain = 4 - empty;
                int pour = drain * fill - between;
                DUE.is(told, x.count(3), fill + drain + pour);
                DUE.is("22: no tap", x.set(0, false), 1);
                DUE.is(told + ", no tap", x.count(3), drain + pour);
                DUE.is("22: no drain", x.set(1, false), 1);
                DUE.is(told + ", neither", x.count(3), pour);
                DUE.is("22: a tap", x.set(0, true), 0);
                DUE.is(told + ", no drain", x.count(3), fill + pour);
            }
        }
    }
}
