/** Promises 25 to 32: ahead, flows, stalls, quiet, worst, leastSize, onWay, chance. */
public final class AheadTest {
    private static final String CALM = "sample 999 500 0;stage 999 99 1;";
    private static final String STUCK = CALM + "link a 1 0 1 0 9;link b 1 0 1 0 9;flow f 16 a b;flow g 16 b a;";
    /** The queue of a is 2, 3, 4, 5, 4, 3, 2, 1, 0, 0, 2, 3 behind its ticks. */
    private static final String WAVE = CALM + "link a 2 2 3 1 99;link b 1 0 99 1 99;flow f 32 a b;";

    public static void main(String[] args) {
        ahead();
        aheadLoses();
        flows();
        stalls();
        quiet();
        worst();
        leastSize();
        leastSizeOfGivenQueue();
        onWay();
        chance();
        chanceTurns();
        chanceCounts();
        nothingChanges();
        Due.end();
    }

    private static void ahead() {
        LosslessFabric x = Due.fabric(WAVE);
        int[] queue = {0, 2, 3, 4, 5, 4, 3, 2, 1, 0, 0, 2, 3};
        int greatest = 0;
        for (int n = 0; n < queue.length; n++) {
            greatest = Math.max(greatest, queue[n]);
            Due.is("ahead(0, " + n + ", 0)", x.ahead(0, n, 0), queue[n]);
            Due.is("ahead(0, " + n + ", 1)", x.ahead(0, n, 1), greatest);
            Due.is("ahead(0, " + n + ", 2)", x.ahead(0, n, 2), 0);
            Due.is("ahead(1, " + n + ", 0)", x.ahead(1, n, 0), 0);
        }
        x.tick(7);
        Due.is("now, too", x.ahead(0, 3, 1), 2);
        Due.is("in these, not so far", x.ahead(0, 0, 1), 2);
        Due.is("300", x.ahead(0, 300, 0) >= 0, true);
        Due.is("301", x.ahead(0, 301, 0), -1);
        Due.is("-1", x.ahead(0, -1, 0), -1);
        Due.is("what 3", x.ahead(0, 1, 3), -1);
        Due.is("what -1", x.ahead(0, 1, -1), -1);
        Due.is("link 2", x.ahead(2, 1, 0), -1);
        Due.is("link -1", x.ahead(-1, 1, 0), -1);
        Due.is("most", x.ahead(0, Integer.MAX_VALUE, 0), -1);
    }

    private static void aheadLoses() {
        LosslessFabric x = Due.fabric(CALM + "link a 5 0 9 1 3;link b 1 4 9 1 9;flow f 80 a b;");
        Due.is("2", x.ahead(0, 1, 2), 2);
        Due.is("2 and 4", x.ahead(0, 2, 2), 6);
        x.tick(1);
        Due.is("in these", x.ahead(0, 1, 2), 4);
        Due.is("in none", x.ahead(0, 0, 2), 0);
        Due.is("of that link", x.ahead(1, 5, 2), 0);
    }

    private static void flows() {
        LosslessFabric x = Due.fabric("sample 999 1 0;stage 999 4 10;link a 1 0 99 1 99;link b 1 0 99 1 99;flow f 8 a b;flow g 16 b;");
        Due.is("RATE now", x.flows(0, 0, 0), 8);
        Due.is("RATE then", x.flows(0, 23, 0), 8);
        Due.is("RATE then", x.flows(0, 24, 0), 13);
        Due.is("SENT", x.flows(0, 4, 2), 2);
        Due.is("DELIVERED", x.flows(0, 4, 1), 1);
        Due.is("g", x.flows(1, 4, 1), 3);
        x.tick(4);
        Due.is("SENT in these", x.flows(0, 4, 2), 2);
        Due.is("DELIVERED in these", x.flows(0, 4, 1), 2);
        Due.is("in none", x.flows(0, 0, 1) + x.flows(0, 0, 2), 0);
        Due.is("300", x.flows(0, 300, 2) > 100, true);
        Due.is("301", x.flows(0, 301, 0), -1);
        Due.is("-1", x.flows(0, -1, 0), -1);
        Due.is("what 3", x.flows(0, 1, 3), -1);
        Due.is("what -1", x.flows(0, 1, -1), -1);
        Due.is("flow 2", x.flows(2, 1, 0), -1);
        Due.is("flow -1", x.flows(-1, 1, 0), -1);
    }

    private static void stalls() {
        LosslessFabric x = Due.fabric(STUCK);
        Due.is("in one", x.stalls(), 1);
        x.tick(1);
        Due.is("now", x.stalls(), 0);
        x.undo();
        x.turn(0);
        Due.is("without f", x.stalls(), -2);
        Due.is("none ever", Due.fabric(WAVE).stalls(), -2);
        Due.is("none of none", new LosslessFabric().stalls(), -2);
        // each sends its first cell in the tick that its credit is one
        for (int rate = 1; rate <= 16; rate++) {
            LosslessFabric y = Due.fabric(STUCK.replace("16", "" + rate));
            Due.is("rate " + rate, y.stalls(), (15 + rate) / rate);
        }
        LosslessFabric z = Due.fabric(STUCK + "off f;off g;");
        Due.is("all OFF", z.stalls(), -2);
        // b is full of g and asks for a pause; f has a cell for b each 16 ticks: 19 of them in 304
        LosslessFabric w = Due.fabric(CALM + "link a 1 0 19 0 999;link b 64 0 999 0 1999;flow f 1 a b;flow g 1024 b a;off f;");
        w.tick(10);
        w.turn(1);
        w.bounds(1, 1, 0);
        w.tick(1);
        w.turn(0);
        int[] due = {-2, -2, -2, -2, 300, 299, 298};
        for (int t = 0; t < due.length; t++) {
            Due.is("304 less " + t, w.stalls(), due[t]);
            w.tick(1);
        }
    }

    private static void quiet() {
        LosslessFabric x = Due.fabric(WAVE);
        Due.is("empty now", x.quiet(), 0);
        x.tick(1);
        // 2 in the queue, none in credit
        Due.is("two", x.quiet(), 2);
        x.tick(3);
        // 5 in the queue, one goes each tick, and what credit is left comes no more as a is paused
        Due.is("credit", x.flow(0, 8), 0);
        Due.is("five", x.quiet(), 5);
        x.tick(2);
        Due.is("queue", x.link(0, 5), 3);
        Due.is("credit", x.flow(0, 8), 64);
        // paused in 7, 8, 9, 10: empty behind 9
        Due.is("three, credit or not", x.quiet(), 3);
        LosslessFabric y = Due.fabric(STUCK);
        y.tick(1);
        Due.is("never", y.quiet(), -2);
        Due.is("of none", new LosslessFabric().quiet(), 0);
        // what is left of credit comes yet: 10 cells, one each tick
        LosslessFabric z = Due.fabric(CALM + "link a 1 0 9 1 9;link b 1 0 9 1 9;flow f 160 a b;");
        z.tick(1);
        Due.is("nine come, each goes a tick later", z.quiet(), 10);
        z.turn(0);
        Due.is("OFF already", z.quiet(), 10);
        // 299 cells go one by one: within 300; 301 do not
        for (int cells = 299; cells <= 302; cells++) {
            LosslessFabric w = Due.fabric(CALM + "link a 64 0 999 1 " + cells + ";link b 1 4 9 1 9;flow f 1024 a b;");
            w.tick(6);
            w.turn(0);
            Due.is("queue", w.link(0, 5), cells);
            Due.is("credit", w.flow(0, 8), 0);
            Due.is("quiet with " + cells, w.quiet(), cells <= 300 ? cells : -2);
        }
    }

    private static void worst() {
        // all by one link: f takes most, then g; without f the others have all
        LosslessFabric x = Due.fabric(CALM + "link a 4 0 99 1 99;flow f 16 a;flow g 64 a;flow h 16 a;flow k 16 a;off k;");
        // without f: g 3, h 1: 4; without g: 2; without h: g 3, f 1: 4
        Due.is("the first of several", x.worst(1), 0);
        LosslessFabric y = Due.fabric(CALM + "link a 4 0 99 1 99;link b 1 0 99 1 99;flow f 16 a;flow g 64 a;flow h 16 b;flow k 64 a b;off f;");
        Due.is("k delivers none, but takes its turns", y.worst(1), 3);
        y.turn(3);
        // without g 1, without h 4
        Due.is("of those that are ON", y.worst(1), 2);
        Due.is("in all these", y.worst(40), 2);
        Due.is("0", y.worst(0), -1);
        Due.is("41", y.worst(41), -1);
        Due.is("-1", y.worst(-1), -1);
        y.turn(1);
        y.turn(2);
        Due.is("none is ON", y.worst(1), -2);
        Due.is("no such n goes first", y.worst(41), -1);
        Due.is("no such n goes first", y.worst(0), -1);
        // an OFF flow's cells that are under way are of the others
        LosslessFabric z = Due.fabric(CALM + "link a 9 0 99 1 99;link b 2 0 99 1 99;flow f 144 a b;flow g 16 b;flow h 16 a;");
        z.tick(1);
        z.turn(0);
        // without g: f 2, h 1; without h: f 1, g 1
        Due.is("f goes on", z.worst(1), 1);
        // its own are not counted: f delivers most, all others one
        LosslessFabric w = Due.fabric(CALM + "link a 9 0 99 1 99;link b 9 0 99 1 99;flow f 16 a;flow g 144 b;");
        Due.is("without f: nine", w.worst(1), 0);
        LosslessFabric v = Due.fabric(CALM + "link a 9 0 99 1 99;link b 9 0 99 1 99;flow f 144 a;flow g 16 b;");
        Due.is("without g: nine", v.worst(1), 1);
    }

    private static void leastSize() {
        LosslessFabric x = Due.fabric(WAVE);
        int[] least = {0, 2, 3, 4, 5, 5, 5, 5, 5, 5, 5, 5, 5};
        for (int n = 1; n < least.length; n++) {
            Due.is("leastSize(0, " + n + ")", x.leastSize(0, n), least[n]);
            Due.is("no queue", x.leastSize(1, n), 1);
        }
        x.size(0, 1);
        Due.is("whatever it is now", x.leastSize(0, 4), 5);
        Due.is("100", x.leastSize(0, 100), 5);
        Due.is("101", x.leastSize(0, 101), -1);
        Due.is("0", x.leastSize(0, 0), -1);
        Due.is("-1", x.leastSize(0, -1), -1);
        Due.is("link 2", x.leastSize(2, 1), -1);
        Due.is("link -1", x.leastSize(-1, 1), -1);
        // what others lose does not count
        LosslessFabric y = Due.fabric(CALM + "link a 4 0 99 1 1;link b 4 0 99 1 99;link c 1 4 9 1 9;flow f 64 a b c;");
        Due.is("one at a time", y.leastSize(1, 30), 1);
        Due.is("its own", y.leastSize(0, 1), 4);
        Due.is("none leaves b slower than it comes", y.leastSize(0, 30), 4);
    }

    private static void leastSizeOfGivenQueue() {
        LosslessFabric x = Due.fabric(WAVE);
        x.tick(4);
        // 5 now, and none comes till the queue was empty: sizes below 5 lose none
        Due.is("none comes", x.leastSize(0, 6), 1);
        Due.is("two come", x.leastSize(0, 7), 2);
        Due.is("three", x.leastSize(0, 8), 3);
        // the greatest queue that can be
        LosslessFabric y = Due.fabric(CALM + "link a 64 4 999 998 1;link b 1 4 9 1 9;flow f 1024 a b;");
        int headroom = y.headroom(0);
        int least = y.leastSize(0, 100);
        Due.is("within the headroom", least > 998 && least <= headroom, true);
        Due.is("the size before stays", y.link(0, 4), 1);
        y.size(0, least - 1);
        Due.is("one less loses", y.ahead(0, 100, 2) > 0, true);
        y.size(0, least);
        Due.is("that one does not", y.ahead(0, 100, 2), 0);
    }

    private static void onWay() {
        LosslessFabric x = Due.fabric(CALM + "link a 5 0 9 1 3;link b 1 4 9 1 9;link c 1 4 9 1 9;flow f 80 a b c;flow g 16 c;");
        Due.is("none", x.onWay(0), 0);
        x.tick(1);
        Due.is("5 sent, 2 lost", x.onWay(0), 3);
        x.tick(1);
        Due.is("10 sent, 6 lost", x.onWay(0), 4);
        Due.is("lost", x.count(5), 6);
        Due.is("g", x.onWay(1), 0);
        Due.is("onWay(2)", x.onWay(2), -1);
        Due.is("onWay(-1)", x.onWay(-1), -1);
    }

    private static void chance() {
        LosslessFabric x = Due.fabric(WAVE + "seed 77;");
        Due.is("never turned", x.chance(5, 200, 0, 0), x.flows(0, 200, 1));
        Due.is("the seed of the text", x.chance(-1, 200, 50, 0), x.chance(77, 200, 50, 0));
        Due.is("seed -2", x.chance(-2, 5, 50, 0), -1);
        Due.is("seed least", x.chance(Integer.MIN_VALUE, 5, 50, 0), -1);
        Due.is("seed most", x.chance(Integer.MAX_VALUE, 5, 0, 0), x.flows(0, 5, 1));
        Due.is("n 0", x.chance(0, 0, 50, 0), -1);
        Due.is("n 201", x.chance(0, 201, 50, 0), -1);
        Due.is("n 200", x.chance(0, 200, 50, 0) >= 0, true);
        Due.is("p -1", x.chance(0, 5, -1, 0), -1);
        Due.is("p 101", x.chance(0, 5, 101, 0), -1);
        Due.is("what 4", x.chance(0, 5, 50, 4), -1);
        Due.is("what -1", x.chance(0, 5, 50, -1), -1);
        Due.is("without flows", new LosslessFabric().chance(0, 5, 50, 0), 0);
        Due.is("without flows", Due.fabric("link a 1 0 9 1 9;").chance(-1, 200, 100, 2), 0);
    }

    /** The draws, by hand with long numbers. */
    private static void chanceTurns() {
        String text = CALM + "link a 64 0 9 1 9;flow f 16 a;flow g 32 a;flow h 64 a;";
        int[] cells = {1, 2, 4};
        for (int seed : new int[] {0, 1, 12345, 99999, 65536, Integer.MAX_VALUE}) {
            for (int p : new int[] {0, 1, 30, 50, 99, 100}) {
                LosslessFabric x = Due.fabric(text);
                boolean[] on = {true, true, true};
                long last = seed;
                int delivered = 0;
                for (int n = 1; n <= 60; n++) {
                    last = (last * 1103515245L + 12345L) % (1L << 31);
                    int flow = (int) (last / 65536 % 3);
                    last = (last * 1103515245L + 12345L) % (1L << 31);
                    if (last / 65536 % 100 < p) {
                        on[flow] = !on[flow];
                    }
                    for (int f = 0; f < 3; f++) {
                        delivered += on[f] ? cells[f] : 0;
                    }
                    Due.is("chance(" + seed + ", " + n + ", " + p + ", 0)", x.chance(seed, n, p, 0), delivered);
                }
            }
        }
    }

    private static void chanceCounts() {
        LosslessFabric x = Due.fabric(STUCK);
        Due.is("TICKS behind which there was one", x.chance(0, 5, 0, 2), 5);
        x.tick(1);
        Due.is("not now", x.chance(0, 5, 0, 2), 5);
        LosslessFabric y = Due.fabric(CALM + "link a 5 0 9 1 3;link b 1 4 9 1 9;flow f 80 a b;");
        y.tick(1);
        Due.is("LOST in these", y.chance(0, 1, 0, 1), 4);
        Due.is("DELIVERED in these", y.chance(0, 1, 0, 0), 1);
        LosslessFabric z = Due.fabric("sample 1 1 0;stage 999 99 1;link a 9 0 99 1 99;link b 1 4 99 1 99;flow f 144 a b;");
        z.tick(1);
        Due.is("a notice", z.count(6), 1);
        Due.is("NOTICES in these", z.chance(0, 2, 0, 3), 2);
    }

    private static void nothingChanges() {
        LosslessFabric x = Due.fabric(WAVE + "flow g 33 b;");
        x.tick(3);
        String before = told(x);
        x.ahead(0, 300, 1);
        x.flows(0, 300, 1);
        x.stalls();
        x.quiet();
        x.worst(40);
        x.leastSize(0, 100);
        x.chance(1, 200, 50, 3);
        x.fair(0, true);
        x.full();
        x.inCycles(1);
        x.cycle(0);
        Due.is("looks change nothing", told(x).equals(before), true);
        Due.is("nothing to undo", x.count(9), 1);
    }

    private static String told(LosslessFabric x) {
        StringBuilder s = new StringBuilder();
        for (int l = 0; l < x.count(0); l++) {
            for (int what = 0; what <= 13; what++) {
                s.append(x.link(l, what)).append(' ');
            }
        }
        for (int f = 0; f < x.count(1); f++) {
            for (int what = 0; what <= 11; what++) {
                s.append(x.flow(f, what)).append(' ');
            }
        }
        return s.append(x.count(2)).toString();
    }
}
