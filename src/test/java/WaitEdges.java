/** The edges of headroom, waits, cycles and fair rates: terms, part 3, and promises 17 to 24. */
final class WaitEdges {
    private static final int TERMS = Sentence.TERMS;
    private static final String CALM = Fill.CALM;
    private static final String RING = "a b c d e,e f g h i,i j a";

    private WaitEdges() {
    }

    static void all() {
        queueIsNeverMore();
        safe();
        headroomAnswers();
        safeAnswers();
        waits();
        waitsAnswers();
        pauseCycle();
        firstCycle();
        cycleAnswers();
        witnessAnswers();
        mayWait();
        inCyclesAnswers();
        fair();
        fairStays();
        fairAside();
        fairAnswers();
        fullAnswers();
    }

    /** Links that ask for a pause as soon as one cell is there; flows of a cell each tick. */
    private static LosslessFabric tight(int links, int delay, String flows) {
        StringBuilder s = new StringBuilder(CALM);
        for (int l = 0; l < links; l++) {
            s.append("link ").append((char) ('a' + l)).append(" 9 ").append(delay).append(" 1 0 9;");
        }
        int f = 0;
        for (String path : flows.split(",")) {
            s.append("flow ").append((char) ('a' + f)).append(" 16 ").append(path).append(';');
            f++;
        }
        return Due.fabric(s.toString());
    }

    private static LosslessFabric stuck() {
        LosslessFabric x = tight(3, 0, "a b,b a,c a");
        x.tick(1);
        x.keep();
        x.tick(1);
        return x;
    }

    private static void queueIsNeverMore() {
        Sentence.of(TERMS, "HEADROOM of a LINK: XOFF less 1, and CAP times (DELAY and 1): its QUEUE is never more.");
        for (int cap : new int[] {1, 7, 64}) {
            for (int delay = 0; delay <= 4; delay++) {
                for (int xoff : new int[] {1, 2, 100, 999}) {
                    LosslessFabric x = Due.fabric(CALM + "link a " + cap + " " + delay + " " + xoff + " 0 1999;link b 1 4 999 0 1999;"
                        + "flow z 1024 b;flow f 1024 a b;flow g 1024 a b;off g;");
                    int headroom = xoff - 1 + cap * (delay + 1);
                    Due.is("headroom(0)", x.headroom(0), headroom);
                    reach(x, cap, xoff);
                    Due.is("CAP " + cap + ", DELAY " + delay + ", XOFF " + xoff + ": the greatest QUEUE", x.link(0, 9), headroom);
                    Due.is("it stays there", x.ahead(0, 300, 1), headroom);
                }
            }
        }
    }

    /** One cell less than XOFF, then as many as the link can carry, whatever notice one flow gets. */
    private static void reach(LosslessFabric x, int cap, int xoff) {
        int left = xoff - 1;
        while (left > 0) {
            int cells = Math.min(cap, left);
            int ticks = Math.min(50, left / cells);
            x.rate(1, 16 * cells);
            x.tick(ticks);
            left -= cells * ticks;
        }
        Due.is("one less than XOFF", x.link(0, 5), xoff - 1);
        x.turn(2);
        x.tick(20);
    }

    private static void safe() {
        Sentence.of(TERMS, "SAFE: it is no more than SIZE.");
        for (int size = 20; size <= 22; size++) {
            LosslessFabric x = Due.fabric("link a 5 2 7 3 " + size + ";");
            Due.is("HEADROOM 21, SIZE " + size, x.safe(), size >= 21 ? 1 : 0);
        }
        LosslessFabric x = Due.fabric("link a 1 0 1 0 1;link b 1 0 2 0 1;link c 64 4 999 0 1318;link d 64 4 999 0 1317;");
        Due.is("the least and the most", x.safe(), 1 + 4);
    }

    private static void headroomAnswers() {
        Sentence.of(17, "HEADROOM;");
        LosslessFabric x = Due.fabric("link a 1 0 1 0 1;link b 64 4 999 0 1;");
        Due.is("the least", x.headroom(0), 1);
        Due.is("the most", x.headroom(1), 1318);
        x.bounds(1, 1, 0);
        Due.is("by its bounds now", x.headroom(1), 320);
        Sentence.of(17, "NONE: no such LINK.");
        for (int l : CallEdges.NO_LINK) {
            Shown.refused("headroom(" + l + ")", Rich::fabric, y -> y.headroom(l), -1);
        }
        Due.is("of a new one", new LosslessFabric().headroom(0), -1);
    }

    private static void safeAnswers() {
        Sentence.of(18, "SAFE LINKS, as bits.");
        Due.is("no LINKS", new LosslessFabric().safe(), 0);
        StringBuilder s = new StringBuilder();
        for (int l = 0; l < 10; l++) {
            s.append("link ").append((char) ('a' + l)).append(" 2 1 3 0 6;");
        }
        LosslessFabric x = Due.fabric(s.toString());
        Due.is("all ten", x.safe(), 1023);
        for (int l = 0; l < 10; l++) {
            x.size(l, 5);
            Due.is("without the first " + (l + 1), x.safe(), 1023 >> l + 1 << l + 1);
        }
        x.bounds(9, 2, 0);
        Due.is("by its bounds now", x.safe(), 512);
    }

    private static void waits() {
        Sentence.of(TERMS, "A LINK WAITS for another one: it ASKED pause, its QUEUE has cells of a FLOW whose next LINK that is, and that one ASKED pause.");
        // XOFF of a, XOFF of b: three cells each in their queues
        int[][] due = {{3, 3, 2}, {2, 2, 2}, {4, 3, 0}, {3, 4, 0}, {4, 4, 0}};
        for (int[] d : due) {
            LosslessFabric x = Due.fabric(CALM + "link a 9 4 " + d[0] + " 0 99;link b 9 4 " + d[1] + " 0 99;link c 9 4 9 0 99;"
                + "flow f 48 a b;flow g 48 b c;");
            x.tick(1);
            Due.is("XOFF " + d[0] + ", " + d[1] + ": waits(0)", x.waits(0), d[2]);
            Due.is("c did not ask: waits(1)", x.waits(1), 0);
        }
        // a has cells for c alone, though b comes behind a for f
        LosslessFabric y = tight(3, 4, "a b,a c,b a,c a");
        y.turn(0);
        y.tick(1);
        Due.is("ASKED", y.count(8), 3);
        Due.is("no cells for b", y.waits(0), 4);
        y.turn(0);
        y.tick(1);
        Due.is("cells for both", y.waits(0), 6);
        // f goes by a and b both, but its cells in b go on by c
        LosslessFabric z = tight(4, 4, "a b c d");
        z.tick(3);
        Due.is("a for b", z.waits(0), 2);
        Due.is("b for c", z.waits(1), 4);
        Due.is("c for none: d has no QUEUE", z.waits(2), 0);
    }

    private static void waitsAnswers() {
        Sentence.of(19, "LINKS for which a LINK WAITS, as bits;");
        LosslessFabric x = tight(9, 4, "a b,a c,a d,a e,a f,a g,a h,b a");
        Due.is("none yet", x.waits(0), 0);
        x.tick(1);
        Due.is("b alone ASKED", x.waits(0), 2);
        Due.is("b for a", x.waits(1), 1);
        LosslessFabric y = tight(10, 4, "j i,j h,j g,i a,h a,g a,a j");
        y.tick(1);
        Due.is("the tenth for three", y.waits(9), 256 + 128 + 64);
        Due.is("the first for the tenth", y.waits(0), 512);
        Sentence.of(19, "NONE: no such LINK.");
        for (int l : CallEdges.NO_LINK) {
            Shown.refused("waits(" + l + ")", Rich::fabric, z -> z.waits(l), -1);
        }
        Due.is("of a new one", new LosslessFabric().waits(0), -1);
    }

    private static void ring(LosslessFabric x, int... links) {
        for (int i = 0; i < links.length; i++) {
            Due.is("cycle(" + i + ")", x.cycle(i), links[i]);
        }
        Due.is("cycle(" + links.length + ")", x.cycle(links.length), -2);
    }

    private static void pauseCycle() {
        Sentence.of(TERMS, "A PAUSE CYCLE: LINKS each of which WAITS for the next one, the last one for the first:");
        ring(stuck(), 0, 1);
        LosslessFabric x = tight(10, 4, RING);
        for (int t = 0; t < 4; t++) {
            ring(x);
            x.tick(1);
        }
        ring(x, 0, 1, 2, 3, 4, 5, 6, 7, 8, 9);
        // a row of waits without an end that leads back
        LosslessFabric y = tight(4, 4, "a b,b c,c d");
        y.tick(1);
        Due.is("a and b wait", y.waits(0) * 10 + y.waits(1), 24);
        ring(y);
    }

    private static void firstCycle() {
        Sentence.of(TERMS, "the FIRST: of those through the least LINK that lies in one, the shortest one that begins with it, of several the first by numbers.");
        // a waits for b and lies in none; b, c, d is longer than d, e
        LosslessFabric x = tight(5, 0, "a b,b c,c d,d b,d e,e d");
        x.tick(1);
        ring(x, 1, 2, 3);
        // b waits for a, which lies in none
        LosslessFabric y = tight(4, 0, "b a,a d,b c,c b");
        y.tick(1);
        Due.is("b waits for a and c", y.waits(1), 5);
        ring(y, 1, 2);
        // c, which waits for a, leads to no cycle: b, d, e
        LosslessFabric t = tight(6, 0, "b c,c a,a f,b d,d e,e b");
        t.tick(1);
        Due.is("b waits for c and d", t.waits(1), 12);
        ring(t, 1, 3, 4);
        // a, b, c and a, d
        LosslessFabric z = tight(4, 0, "a b,b c,c a,a d,d a");
        z.tick(1);
        ring(z, 0, 3);
        // a, b, d and a, c, d; then a, b, d and a, b, c
        LosslessFabric v = tight(4, 0, "a c,c d,d a,a b,b d");
        v.tick(1);
        ring(v, 0, 1, 3);
        LosslessFabric w = tight(4, 0, "b d,d a,a b,b c,c a");
        w.tick(1);
        ring(w, 0, 1, 2);
        // the second number counts ahead of the third: a, b, e and a, c, d
        LosslessFabric u = tight(5, 0, "a c,c d,d a,a b,b e,e a");
        u.tick(1);
        ring(u, 0, 1, 4);
    }

    private static void cycleAnswers() {
        Sentence.of(20, "The i-th LINK (0 on) of the FIRST PAUSE CYCLE;");
        Due.is("cycle(0)", stuck().cycle(0), 0);
        Due.is("cycle(1)", stuck().cycle(1), 1);
        Sentence.of(20, "-2: there are not so many, there is none;");
        for (int i : new int[] {2, 3, 10, Integer.MAX_VALUE}) {
            Shown.refused("cycle(" + i + ")", WaitEdges::stuck, x -> x.cycle(i), -2);
        }
        for (int i : new int[] {0, 1, Integer.MAX_VALUE}) {
            Shown.refused("none: cycle(" + i + ")", Rich::fabric, x -> x.cycle(i), -2);
            Due.is("of a new one", new LosslessFabric().cycle(i), -2);
        }
        LosslessFabric y = tight(10, 4, RING);
        y.tick(4);
        Due.is("the tenth", y.cycle(9), 9);
        Due.is("behind the tenth", y.cycle(10), -2);
        Sentence.of(20, "NONE: i is below 0.");
        for (int i : new int[] {-1, -2, Integer.MIN_VALUE}) {
            Shown.refused("cycle(" + i + ")", WaitEdges::stuck, x -> x.cycle(i), -1);
            Due.is("none: cycle(" + i + ")", Rich.fabric().cycle(i), -1);
        }
    }

    private static void witnessAnswers() {
        Sentence.of(21, "The least FLOW by which the i-th LINK of that WAITS for the next one;");
        LosslessFabric x = tight(3, 0, "b a,a b,a b c,c a,b a c");
        x.turn(0);
        x.turn(1);
        x.tick(1);
        ring(x, 0, 1);
        Due.is("not b, which has no cells there", x.witness(0), 2);
        Due.is("not a, which has no cells there", x.witness(1), 4);
        LosslessFabric y = tight(3, 0, "b a,a b,a b c,c a,b a c");
        y.tick(1);
        Due.is("the least of two", y.witness(0), 1);
        Due.is("the least of two, from the last LINK to the first", y.witness(1), 0);
        LosslessFabric z = tight(10, 4, RING);
        z.tick(4);
        int[] by = {0, 0, 0, 0, 1, 1, 1, 1, 2, 2};
        for (int i = 0; i < 10; i++) {
            Due.is("witness(" + i + ") of ten", z.witness(i), by[i]);
        }
        Sentence.of(21, "-2, NONE likewise.");
        for (int i : new int[] {2, 3, Integer.MAX_VALUE}) {
            Shown.refused("witness(" + i + ")", WaitEdges::stuck, v -> v.witness(i), -2);
        }
        Due.is("behind the tenth", z.witness(10), -2);
        for (int i : new int[] {0, 1, Integer.MAX_VALUE}) {
            Shown.refused("none: witness(" + i + ")", Rich::fabric, v -> v.witness(i), -2);
            Due.is("of a new one", new LosslessFabric().witness(i), -2);
        }
        for (int i : new int[] {-1, -2, Integer.MIN_VALUE}) {
            Shown.refused("witness(" + i + ")", WaitEdges::stuck, v -> v.witness(i), -1);
            Due.is("none: witness(" + i + ")", Rich.fabric().witness(i), -1);
        }
    }

    private static void mayWait() {
        Sentence.of(TERMS, "MAY WAIT: a FLOW has that LINK right behind it.");
        Due.is("there and back", tight(2, 0, "a b,b a").inCycles(1), 3);
        Due.is("one way", tight(2, 0, "a b,a b").inCycles(1), 0);
        Due.is("not right behind it: a, c is no step", tight(3, 0, "a b c,c a").inCycles(1), 7);
        Due.is("a by b to c, and c by b to a", tight(3, 0, "a b c,c b a").inCycles(1), 7);
        Due.is("a to c, c to b: b lies behind a, but not right behind it", tight(4, 0, "a c b,b d").inCycles(1), 0);
        LosslessFabric x = tight(2, 0, "a b,b a");
        x.turn(0);
        x.turn(1);
        Due.is("OFF or ON", x.inCycles(1), 3);
        Due.is("all five steps of a FLOW", tight(5, 0, "a b c d e,e a").inCycles(1), 31);
    }

    private static void inCyclesAnswers() {
        Sentence.of(22, "LINKS that lie in a PAUSE CYCLE (what 0), in a cycle of those that MAY WAIT (1), as bits;");
        LosslessFabric x = stuck();
        Due.is("a and b", x.inCycles(0), 3);
        Due.is("c waits, but lies in none", x.waits(2), 1);
        Due.is("a and b", x.inCycles(1), 3);
        LosslessFabric y = tight(10, 4, RING);
        Due.is("all ten may", y.inCycles(1), 1023);
        y.tick(3);
        Due.is("none yet", y.inCycles(0), 0);
        y.tick(1);
        Due.is("all ten", y.inCycles(0), 1023);
        LosslessFabric z = tight(9, 0, "a b,b a,d e,e d,b d,i h,h i");
        z.tick(1);
        Due.is("three of them", z.inCycles(0), 3 + 24 + 384);
        Due.is("of a new one", new LosslessFabric().inCycles(0) + new LosslessFabric().inCycles(1), 0);
        Due.text(z, "link a 1 0 1 0 9;link b 1 0 1 0 9;link c 1 0 1 0 9;flow f 16 a b c;");
        Due.is("cycles of a text ahead are gone", z.inCycles(1), 0);
        Due.is("cycles of a text ahead are gone", z.inCycles(0), 0);
        Sentence.of(22, "NONE for another what.");
        for (int what : new int[] {-1, 2, Integer.MIN_VALUE, Integer.MAX_VALUE}) {
            Shown.refused("inCycles(" + what + ")", WaitEdges::stuck, v -> v.inCycles(what), -1);
        }
    }

    private static String links(int... caps) {
        StringBuilder s = new StringBuilder();
        for (int l = 0; l < caps.length; l++) {
            s.append("link ").append((char) ('a' + l)).append(' ').append(caps[l]).append(" 0 9 1 99;");
        }
        return s.toString();
    }

    private static void share(LosslessFabric x, int flow, long upper, long lower) {
        Due.is("fair(" + flow + ", false)", x.fair(flow, false), upper);
        Due.is("fair(" + flow + ", true)", x.fair(flow, true), lower);
    }

    private static void fair() {
        Sentence.of(TERMS, "FAIR: all FLOWS that are ON get more and more alike from 0 on, in cells each TICK, till a LINK has as much as CAP;");
        share(Due.fabric(links(1) + "flow f 1024 a;"), 0, 1, 1);
        share(Due.fabric(links(64) + "flow f 1 a;"), 0, 64, 1);
        StringBuilder eight = new StringBuilder();
        for (int f = 0; f < 8; f++) {
            eight.append("flow ").append((char) ('a' + f)).append(" 1 a;");
        }
        for (int f = 0; f < 8; f++) {
            share(Due.fabric(links(1) + eight), f, 1, 8);
            share(Due.fabric(links(63) + eight), f, 63, 8);
            share(Due.fabric(links(64) + eight), f, 8, 1);
        }
        // 7 by 2 is less than 11 by 3, and more than 10 by 3
        LosslessFabric x = Due.fabric(links(7, 11) + "flow f 1 a b;flow g 1 a;flow h 1 b;flow k 1 b;");
        share(x, 0, 7, 2);
        share(x, 2, 15, 4);
        LosslessFabric y = Due.fabric(links(7, 10) + "flow f 1 a b;flow g 1 a;flow h 1 b;flow k 1 b;");
        share(y, 0, 10, 3);
        share(y, 1, 11, 3);
    }

    private static void fairStays() {
        Sentence.of(TERMS, "its FLOWS stay at that; all others go on: fractions.");
        LosslessFabric x = Due.fabric(links(1, 4, 10) + "flow a 1 a;flow b 1 a;flow c 1 a b;flow d 1 b;flow e 1 b;flow f 1 b c;flow g 1 c;flow h 1 c;");
        long[][] due = {{1, 3}, {1, 3}, {1, 3}, {11, 9}, {11, 9}, {11, 9}, {79, 18}, {79, 18}};
        for (int f = 0; f < 8; f++) {
            share(x, f, due[f][0], due[f][1]);
        }
        // two links at one level hold all their flows at once
        LosslessFabric y = Due.fabric(links(2, 2, 9) + "flow f 1 a c;flow g 1 b c;flow h 1 c;");
        share(y, 0, 2, 1);
        share(y, 1, 2, 1);
        share(y, 2, 5, 1);
    }

    private static void fairAside() {
        Sentence.of(TERMS, "(RATES aside; FLOWS that are OFF have 0.)");
        LosslessFabric x = Due.fabric(links(9) + "flow f 1 a;flow g 1024 a;flow h 7 a;off h;");
        share(x, 0, 9, 2);
        share(x, 1, 9, 2);
        share(x, 2, 0, 1);
        x.turn(2);
        share(x, 2, 3, 1);
        x.rate(0, 999);
        share(x, 0, 3, 1);
        for (int f = 0; f < 3; f++) {
            x.turn(f);
        }
        share(x, 0, 0, 1);
        Due.is("none", x.full(), 0);
    }

    private static void fairAnswers() {
        Sentence.of(23, "FAIR of a FLOW as a fraction in least terms, its upper number, (under) its lower one (0 by 1);");
        share(Due.fabric(links(6) + "flow f 1 a;flow g 1 a;flow h 1 a;flow k 1 a;"), 3, 3, 2);
        share(Due.fabric(links(64) + "flow f 1 a;flow g 1 a;flow h 1 a;flow k 1 a;flow l 1 a;flow m 1 a;"), 0, 32, 3);
        share(Due.fabric(links(1) + "flow f 1 a;off f;"), 0, 0, 1);
        Sentence.of(23, "NONE: no such FLOW.");
        for (int f : CallEdges.NO_FLOW) {
            Shown.refused("fair(" + f + ", false)", Rich::fabric, x -> x.fair(f, false), -1);
            Shown.refused("fair(" + f + ", true)", Rich::fabric, x -> x.fair(f, true), -1);
        }
        Due.is("of a new one", new LosslessFabric().fair(0, true), -1);
    }

    private static void fullAnswers() {
        Sentence.of(24, "LINKS that FAIR fills to their CAP, as bits.");
        Due.is("no LINKS", new LosslessFabric().full(), 0);
        Due.is("no FLOWS", Due.fabric(links(1, 2)).full(), 0);
        Due.is("exactly", Due.fabric(links(2, 3, 5) + "flow f 1 a c;flow g 1 b c;").full(), 7);
        Due.is("one more than is used", Due.fabric(links(2, 3, 6) + "flow f 1 a c;flow g 1 b c;").full(), 3);
        Due.is("one less holds both", Due.fabric(links(2, 3, 4) + "flow f 1 a c;flow g 1 b c;").full(), 1 + 4);
        Due.is("the tenth", Due.fabric(links(9, 9, 9, 9, 9, 9, 9, 9, 9, 8) + "flow f 1 a j;").full(), 512);
        StringBuilder flows = new StringBuilder();
        for (int f = 0; f < 8; f++) {
            flows.append("flow ").append((char) ('a' + f)).append(" 1 ").append((char) ('a' + f)).append(f < 2 ? " " + (char) ('i' + f) : "").append(';');
        }
        Due.is("all ten", Due.fabric(links(3, 3, 3, 3, 3, 3, 3, 3, 3, 3) + flows).full(), 1023);
    }
}
