/** The edges of what will be: as it goes, by chance, and promises 25 to 32. */
final class AheadEdges {
    private static final int TERMS = Sentence.TERMS;
    private static final String CALM = Fill.CALM;
    /** A cell of f each tick, none of which goes on: the queue of a is as long as the ticks are many. */
    private static final String GROWS = CALM + "link a 1 4 999 0 1999;link b 1 4 999 0 1999;flow z 1024 b;flow f 16 a b;";
    private static final String THREE = CALM + "link a 64 0 9 0 9;flow f 16 a;flow g 32 a;flow h 64 a;";

    private AheadEdges() {
    }

    static void all() {
        asItGoes();
        ahead();
        aheadRefused();
        flows();
        flowsRefused();
        stalls();
        quiet();
        worst();
        worstOfSeveral();
        leastSize();
        leastSizeRefused();
        onWay();
        draws();
        belowP();
        withoutFlows();
        chance();
        chanceRefused();
    }

    private static void asItGoes() {
        Sentence.of(TERMS, "AS IT GOES: TICKS go by, nothing by call.");
        LosslessFabric x = Rich.fabric();
        LosslessFabric y = Rich.fabric();
        for (int n = 0; n <= 12; n++) {
            for (int i = 0; i <= 2; i++) {
                Due.is("ahead(" + i + ", " + n + ", 0)", x.ahead(i, n, 0), y.link(i, 5));
                Due.is("flows(" + i + ", " + n + ", 0)", x.flows(i, n, 0), y.flow(i, 0));
            }
            y.tick(1);
        }
        Due.same("looks change nothing", Shown.all(x), Shown.all(Rich.fabric()));
    }

    private static void ahead() {
        Sentence.of(25, "AS IT GOES in n 0 .. 300 TICKS, of a LINK what 0 its QUEUE then, 1 the greatest QUEUE in these (now, too), 2 LOST in these;");
        LosslessFabric x = Due.fabric(GROWS);
        for (int n : new int[] {0, 1, 2, 299, 300}) {
            Due.is("ahead(0, " + n + ", 0)", x.ahead(0, n, 0), n);
            Due.is("ahead(0, " + n + ", 1)", x.ahead(0, n, 1), n);
            Due.is("ahead(0, " + n + ", 2)", x.ahead(0, n, 2), 0);
        }
        x.size(0, 1);
        for (int n : new int[] {0, 1, 2, 299, 300}) {
            Due.is("SIZE 1: ahead(0, " + n + ", 0)", x.ahead(0, n, 0), Math.min(1, n));
            Due.is("SIZE 1: ahead(0, " + n + ", 2)", x.ahead(0, n, 2), Math.max(0, n - 1));
        }
        x.tick(50);
        Due.is("LOST so far is none of these", x.ahead(0, 0, 2), 0);
        Due.is("LOST in these", x.ahead(0, 7, 2), 7);
        // it falls from here on, from more than it is now
        LosslessFabric y = Due.fabric(CALM + "link a 9 4 99 0 99;link b 1 4 9 0 9;flow f 80 a b;");
        y.tick(1);
        y.turn(0);
        y.tick(2);
        Due.is("now, too", y.ahead(0, 2, 1), 3);
        Due.is("not what was ahead of now", y.ahead(0, 0, 1), 3);
        Due.is("then", y.ahead(0, 2, 0), 1);
        Due.is("empty", y.ahead(0, 300, 0), 0);
    }

    private static void aheadRefused() {
        Sentence.of(25, "NONE: no such ones.");
        for (int l : CallEdges.NO_LINK) {
            Shown.refused("ahead(" + l + ", 1, 0)", Rich::fabric, x -> x.ahead(l, 1, 0), -1);
        }
        for (int n : new int[] {-1, 301, Integer.MIN_VALUE, Integer.MAX_VALUE}) {
            Shown.refused("ahead(0, " + n + ", 0)", Rich::fabric, x -> x.ahead(0, n, 0), -1);
        }
        for (int what : new int[] {-1, 3, Integer.MIN_VALUE, Integer.MAX_VALUE}) {
            Shown.refused("ahead(0, 1, " + what + ")", Rich::fabric, x -> x.ahead(0, 1, what), -1);
        }
        Due.is("of a new one", new LosslessFabric().ahead(0, 0, 0), -1);
    }

    private static void flows() {
        Sentence.of(26, "AS IT GOES in n 0 .. 300 TICKS, of a FLOW what 0 RATE then, 1 DELIVERED in these, 2 SENT in these;");
        LosslessFabric x = Due.fabric(CALM + "link a 1 0 9 0 9;link b 1 0 9 0 9;flow f 16 a b;");
        for (int n : new int[] {0, 1, 2, 299, 300}) {
            Due.is("flows(0, " + n + ", 0)", x.flows(0, n, 0), 16);
            Due.is("flows(0, " + n + ", 1)", x.flows(0, n, 1), Math.max(0, n - 1));
            Due.is("flows(0, " + n + ", 2)", x.flows(0, n, 2), n);
        }
        x.tick(50);
        Due.is("SENT so far is none of these", x.flows(0, 0, 2), 0);
        Due.is("DELIVERED so far is none of these", x.flows(0, 0, 1), 0);
        Due.is("SENT in these", x.flows(0, 300, 2), 300);
        Due.is("DELIVERED in these", x.flows(0, 300, 1), 300);
        LosslessFabric y = Due.fabric("link a 1 0 9 0 9;flow f 8 a;stage 999 50 9;");
        Due.is("RATE ahead of six STAGES", y.flows(0, 299, 0), 8);
        Due.is("RATE in 300", y.flows(0, 300, 0), 12);
    }

    private static void flowsRefused() {
        Sentence.of(26, "NONE: no such ones.");
        for (int f : CallEdges.NO_FLOW) {
            Shown.refused("flows(" + f + ", 1, 0)", Rich::fabric, x -> x.flows(f, 1, 0), -1);
        }
        for (int n : new int[] {-1, 301, Integer.MIN_VALUE, Integer.MAX_VALUE}) {
            Shown.refused("flows(0, " + n + ", 0)", Rich::fabric, x -> x.flows(0, n, 0), -1);
        }
        for (int what : new int[] {-1, 3, Integer.MIN_VALUE, Integer.MAX_VALUE}) {
            Shown.refused("flows(0, 1, " + what + ")", Rich::fabric, x -> x.flows(0, 1, what), -1);
        }
        Due.is("of a new one", new LosslessFabric().flows(0, 0, 0), -1);
    }

    /** b has asked for a pause and is full of cells for a; a asks when f has sent so many cells. */
    private static LosslessFabric stallsBy(int rate, int cells) {
        LosslessFabric x = Due.fabric(CALM + "link a 1 0 " + cells + " 0 999;link b 64 0 999 0 1999;flow f " + rate + " a b;flow g 1024 b a;off f;");
        x.tick(10);
        x.turn(1);
        x.bounds(1, 1, 0);
        x.tick(1);
        x.turn(0);
        return x;
    }

    private static void stalls() {
        Sentence.of(27, "In how many TICKS 0 .. 300 AS IT GOES there is a PAUSE CYCLE;");
        LosslessFabric x = Due.fabric(CALM + "link a 1 0 1 0 9;link b 1 0 1 0 9;flow f 16 a b;flow g 16 b a;");
        Due.is("in one", x.stalls(), 1);
        x.tick(1);
        Due.is("now", x.stalls(), 0);
        x.tick(50);
        Due.is("still", x.stalls(), 0);
        // the cell of number n is sent in tick 16 n by the rate, upwards
        Due.is("in 299", stallsBy(3, 56).stalls(), 299);
        Due.is("in 300", stallsBy(4, 75).stalls(), 300);
        Sentence.of(27, "-2: in none of these.");
        LosslessFabric y = stallsBy(5, 94);
        Due.is("in 301", y.stalls(), -2);
        y.tick(1);
        Due.is("a TICK later", y.stalls(), 300);
        Due.is("never", Due.fabric(GROWS).stalls(), -2);
        Due.is("of a new one", new LosslessFabric().stalls(), -2);
    }

    private static void quiet() {
        Sentence.of(28, "If all FLOWS were OFF from now on, in how many TICKS 0 .. 300 all QUEUES are empty;");
        Due.is("of a new one", new LosslessFabric().quiet(), 0);
        LosslessFabric w = Due.fabric(CALM + "link a 64 0 999 0 1999;link b 1 4 9 0 9;flow f 80 a b;");
        Due.is("empty now, though it would not stay so", w.quiet(), 0);
        w.tick(1);
        Due.is("five go one by one", w.quiet(), 5);
        Due.is("all are ON all the same", w.count(7), 1);
        for (int cells : new int[] {299, 300}) {
            Due.is("in " + cells, drains(cells).quiet(), cells);
        }
        eightAreQuiet();
        Sentence.of(28, "-2: not within these.");
        for (int cells : new int[] {301, 302}) {
            Due.is("in " + cells, drains(cells).quiet(), -2);
        }
        LosslessFabric y = drains(301);
        y.tick(1);
        Due.is("a TICK later", y.quiet(), 300);
        LosslessFabric z = Due.fabric(CALM + "link a 1 0 1 0 9;link b 1 0 1 0 9;flow f 16 a b;flow g 16 b a;");
        z.tick(1);
        Due.is("stuck", z.quiet(), -2);
    }

    /** Each of eight flows has two cells in the queue of a and, but for what it has of credit, no more. */
    private static void eightAreQuiet() {
        StringBuilder s = new StringBuilder(CALM + "link a 16 4 99 0 99;link b 1 4 9 0 9;");
        for (int f = 0; f < 8; f++) {
            s.append("flow ").append((char) ('a' + f)).append(" 32 a b;");
        }
        LosslessFabric x = Due.fabric(s.toString());
        x.tick(1);
        Due.is("the QUEUE", x.link(0, 5), 16);
        Due.is("sixteen go one by one", x.quiet(), 16);
        x.rate(0, 48);
        x.tick(1);
        Due.is("the first one has a cell of credit", x.flow(0, 8), 16);
        // 15 and 16 are there, and one more comes
        Due.is("the QUEUE", x.link(0, 5), 31);
        Due.is("with that cell", x.quiet(), 32);
    }

    /** So many cells in the queue of a, which go on one each tick, and no more credit. */
    private static LosslessFabric drains(int cells) {
        LosslessFabric x = Due.fabric(CALM + "link a 64 0 999 0 " + cells + ";link b 1 4 9 0 9;flow f 1024 a b;");
        x.tick(6);
        x.turn(0);
        Due.is("the QUEUE", x.link(0, 5), cells);
        return x;
    }

    private static void worst() {
        Sentence.of(29, "The FLOW that is ON without which (OFF from now on) the others DELIVER most in n 1 .. 40 TICKS, all together, the first;");
        // g delivers 4 cells in 39 ticks and 5 in 40, f a tick later: 4 in both
        LosslessFabric x = Due.fabric("link a 1 0 9 0 9;link b 1 0 9 0 9;link c 1 0 9 0 9;flow g 2 c;flow f 2 a b;stage 999 99 1;");
        Due.is("4 and 4: the first", x.worst(39), 0);
        Due.is("4 and 5", x.worst(40), 1);
        LosslessFabric y = Due.fabric(CALM + "link a 9 0 9 0 9;link b 9 0 9 0 9;flow f 32 a;flow g 16 b;");
        Due.is("2 and 1 in one TICK", y.worst(1), 1);
        y.turn(1);
        Due.is("f alone is ON", y.worst(1), 0);
        y.turn(1);
        y.turn(0);
        Due.is("g alone is ON", y.worst(40), 1);
        Sentence.of(29, "-2: none is ON;");
        y.turn(1);
        Due.is("none", y.worst(1), -2);
        Due.is("none", y.worst(40), -2);
        Due.is("no FLOWS", new LosslessFabric().worst(1), -2);
        Sentence.of(29, "NONE: no such n.");
        for (int n : new int[] {0, -1, 41, Integer.MIN_VALUE, Integer.MAX_VALUE}) {
            Shown.refused("worst(" + n + ")", Rich::fabric, z -> z.worst(n), -1);
            Due.is("none is ON: worst(" + n + ")", y.worst(n), -1);
            Due.is("no FLOWS: worst(" + n + ")", new LosslessFabric().worst(n), -1);
        }
    }

    private static void worstOfSeveral() {
        Sentence.of(29, "the others DELIVER most in n 1 .. 40 TICKS, all together, the first;");
        StringBuilder eight = new StringBuilder(CALM + "link a 64 0 9 0 9;");
        for (int f = 0; f < 8; f++) {
            eight.append("flow ").append((char) ('a' + f)).append(f == 7 ? " 16 a;" : " 32 a;");
        }
        LosslessFabric x = Due.fabric(eight.toString());
        Due.is("the eighth has least", x.worst(1), 7);
        x.rate(3, 16);
        Due.is("the fourth as well", x.worst(1), 3);
        x.turn(3);
        Due.is("it is OFF", x.worst(1), 7);
        // the first one with a 16th of credit: there is no ninth to leave out
        LosslessFabric t = Due.fabric(eight.toString());
        t.rate(0, 17);
        t.tick(1);
        Due.is("CREDIT", t.flow(0, 8), 1);
        Due.is("one cell, as the eighth", t.worst(1), 0);
        // k delivers none, but takes its turns
        LosslessFabric z = Due.fabric(CALM + "link a 4 0 99 0 99;link b 1 0 99 0 99;flow g 64 a;flow h 16 b;flow k 64 a b;");
        Due.is("without k: 4 and 1", z.worst(1), 2);
        z.tick(5);
        // all have credit left: without g 1 of h; without h 2 of g and 1 of k; without k 2 of g and 1 of h
        Due.is("what was DELIVERED ahead is none of these", z.worst(1), 1);
        // what f itself has under way is not of the others
        LosslessFabric v = Due.fabric(CALM + "link a 9 4 99 0 99;link b 9 4 99 0 99;link c 2 0 9 0 9;flow f 144 a b;flow g 32 c;");
        v.tick(1);
        Due.is("without f: 2 of g; without g: 9 of f", v.worst(1), 1);
        v.tick(3);
        Due.is("and so on", v.worst(1), 1);
        LosslessFabric w = Due.fabric(CALM + "link a 9 4 99 0 99;link b 5 4 99 0 99;link c 2 0 9 0 9;flow f 144 a b;flow g 32 c;flow h 48 c;");
        w.tick(1);
        // without f: 2; without g: 5 of f and 2 of h; without h: 5 and 2
        Due.is("the first of two", w.worst(1), 1);
        // nobody delivers anything: still the first that is ON
        LosslessFabric y = Due.fabric(CALM + "link a 1 0 9 0 9;flow f 1 a;flow g 1 a;off f;");
        Due.is("0 and 0", y.worst(1), 1);
    }

    private static void leastSize() {
        Sentence.of(30, "The least SIZE 1 .. 1999 of a LINK (all else as it is) by which it loses none AS IT GOES in n 1 .. 100 TICKS;");
        LosslessFabric x = Due.fabric(GROWS);
        for (int n : new int[] {1, 2, 3, 99, 100}) {
            Due.is("leastSize(0, " + n + ")", x.leastSize(0, n), n);
            Due.is("nothing comes to b", x.leastSize(1, n), 1);
        }
        x.size(0, 1);
        Due.is("whatever SIZE it has now", x.leastSize(0, 100), 100);
        Due.is("it keeps it", x.link(0, 4), 1);
        // CAP 64, DELAY 4, XOFF 999, and a flow that no notice has cut
        LosslessFabric y = Due.fabric(CALM + "link a 64 4 999 0 1999;link b 1 4 999 0 1999;flow z 1024 b;flow f 16 a b;flow g 1024 a b;off g;");
        Fill.come(y, 998);
        y.turn(2);
        Due.is("up to its HEADROOM", y.leastSize(0, 100), 1318);
        Due.is("all else as it is", y.link(0, 4), 1999);
        y.size(0, 1317);
        Due.is("one less loses one", y.ahead(0, 100, 2), 1);
        y.size(0, 1318);
        Due.is("that loses none", y.ahead(0, 100, 2), 0);
        // the queue is longer than the answer: what is in it stays
        LosslessFabric z = Fill.held(CALM, 50);
        z.turn(Fill.HELD);
        Due.is("none comes", z.leastSize(0, 100), 1);
        z.turn(Fill.HELD);
        z.rate(Fill.HELD, 16);
        Due.is("one comes", z.leastSize(0, 1), 51);
        // what others lose does not count
        LosslessFabric v = Due.fabric(CALM + "link a 9 4 99 0 99;link b 9 4 99 0 1;link c 1 4 99 0 99;flow f 48 a b c;");
        Due.is("b loses, a does not", v.leastSize(0, 20), 3);
        Due.is("b itself", v.leastSize(1, 2), 3);
        Sentence.of(30, "-2: by none;");
        for (LosslessFabric w : new LosslessFabric[] {x, y, z, v, Rich.fabric()}) {
            for (int n : new int[] {1, 100}) {
                Due.is("1999 is always enough: a QUEUE is never above its HEADROOM", w.leastSize(0, n) >= 1 && w.leastSize(0, n) <= 1318, true);
            }
        }
    }

    private static void leastSizeRefused() {
        Sentence.of(30, "NONE: no such ones.");
        for (int l : CallEdges.NO_LINK) {
            Shown.refused("leastSize(" + l + ", 1)", Rich::fabric, x -> x.leastSize(l, 1), -1);
        }
        for (int n : new int[] {0, -1, 101, Integer.MIN_VALUE, Integer.MAX_VALUE}) {
            Shown.refused("leastSize(0, " + n + ")", Rich::fabric, x -> x.leastSize(0, n), -1);
        }
        Due.is("of a new one", new LosslessFabric().leastSize(0, 1), -1);
    }

    private static void onWay() {
        Sentence.of(31, "Cells on their way: all SENT, less DELIVERED, less LOST, of a FLOW;");
        LosslessFabric x = Due.fabric(CALM + "link a 5 0 9 0 3;link b 1 4 9 0 9;flow f 48 a b;flow g 32 a b;");
        Due.is("none yet", x.onWay(0) + x.onWay(1), 0);
        x.tick(1);
        Due.is("3 SENT", x.onWay(0), 3);
        Due.is("2 SENT, 2 LOST", x.onWay(1), 0);
        x.tick(1);
        Due.is("6 SENT, 1 DELIVERED, 2 LOST", x.onWay(0), 3);
        Due.is("all LOST", x.onWay(1), 0);
        LosslessFabric y = Due.fabric(CALM + "link a 5 0 9 0 3;flow f 48 a;");
        y.tick(3);
        Due.is("one LINK", y.onWay(0), 0);
        Sentence.of(31, "NONE: no such FLOW.");
        for (int f : CallEdges.NO_FLOW) {
            Shown.refused("onWay(" + f + ")", Rich::fabric, z -> z.onWay(f), -1);
        }
        Due.is("of a new one", new LosslessFabric().onWay(0), -1);
    }

    private static long next(long last) {
        return (last * 1103515245L + 12345L) % (1L << 31);
    }

    /** What three flows of 1, 2 and 4 cells deliver, by the draws as the document tells them. */
    private static int delivered(int seed, int n, int p) {
        int[] cells = {1, 2, 4};
        boolean[] on = {true, true, true};
        long last = seed;
        int all = 0;
        for (int t = 0; t < n; t++) {
            last = next(last);
            int flow = (int) (last / 65536 % 3);
            last = next(last);
            if (last / 65536 % 100 < p) {
                on[flow] = !on[flow];
            }
            for (int f = 0; f < 3; f++) {
                all += on[f] ? cells[f] : 0;
            }
        }
        return all;
    }

    private static void draws() {
        Sentence.of(TERMS, "DRAW: the last number (at first the seed) times 1103515245, and 12345 more, without what is above 31 bits, is the next one; "
            + "this by 65536, rounded down, modulo what is said, is drawn.");
        LosslessFabric x = Due.fabric(THREE);
        for (int seed : new int[] {0, 1, 2, 65535, 65536, 99999, 1 << 30, Integer.MAX_VALUE - 1, Integer.MAX_VALUE}) {
            for (int n : new int[] {1, 2, 3, 50, 199, 200}) {
                Due.is("chance(" + seed + ", " + n + ", 50, 0)", x.chance(seed, n, 50, 0), delivered(seed, n, 50));
            }
        }
    }

    /** Seeds whose second draw is just so: a flow is turned if it is below p, not if it is p. */
    private static void belowP() {
        Sentence.of(TERMS, "BY CHANCE: n TICKS from now on, ahead of each a FLOW, a DRAW modulo FLOWS, is turned ON, OFF (the other way), "
            + "if a DRAW modulo 100 is below p");
        LosslessFabric x = Due.fabric(CALM + "link a 64 0 9 0 9;flow f 16 a;");
        boolean[] seen = new boolean[100];
        for (int seed = 0; seed < 2000; seed++) {
            int drawn = (int) (next(next(seed)) / 65536 % 100);
            if (seen[drawn]) {
                continue;
            }
            seen[drawn] = true;
            Due.is("drawn " + drawn + ", p as much: it stays ON", x.chance(seed, 1, drawn, 0), 1);
            Due.is("drawn " + drawn + ", p one more: it is OFF", x.chance(seed, 1, drawn + 1, 0), 0);
        }
        for (int drawn = 0; drawn < 100; drawn++) {
            Due.is("a seed for " + drawn, seen[drawn], true);
        }
        // turned the other way each time: OFF ahead of the first tick, ON ahead of the second
        Due.is("p 100", x.chance(7, 5, 100, 0), 2);
        Due.is("p 0", x.chance(7, 5, 0, 0), 5);
        x.turn(0);
        Due.is("from OFF on", x.chance(7, 5, 100, 0), 3);
        Due.is("it is OFF as it was", x.flow(0, 7), 0);
    }

    private static void withoutFlows() {
        Sentence.of(TERMS, "(without FLOWS: no DRAW).");
        for (int what = 0; what <= 3; what++) {
            Due.is("no LINKS", new LosslessFabric().chance(0, 200, 100, what), 0);
            Due.is("LINKS alone", Due.fabric("link a 1 0 9 0 9;").chance(-1, 200, 100, what), 0);
        }
    }

    private static void chance() {
        Sentence.of(32, "BY CHANCE n 1 .. 200, p 0 .. 100, from a seed 0 .. 2147483647 on");
        LosslessFabric x = Due.fabric(THREE);
        for (int seed : new int[] {0, 1, Integer.MAX_VALUE - 1, Integer.MAX_VALUE}) {
            for (int n : new int[] {1, 2, 199, 200}) {
                for (int p : new int[] {0, 1, 99, 100}) {
                    Due.is("chance(" + seed + ", " + n + ", " + p + ", 0)", x.chance(seed, n, p, 0), delivered(seed, n, p));
                }
            }
        }
        Sentence.of(32, "(-1: that of the TEXT),");
        for (int seed : new int[] {0, 5, 99999}) {
            LosslessFabric y = Due.fabric(THREE + "seed " + seed + ";");
            Due.is("seed " + seed, y.chance(-1, 200, 50, 0), delivered(seed, 200, 50));
        }
        Due.is("0 without one", x.chance(-1, 200, 50, 0), delivered(0, 200, 50));
        Sentence.of(32, "what 0 all DELIVERED in these, 1 LOST, 2 TICKS behind which there was a PAUSE CYCLE, 3 NOTICES;");
        LosslessFabric z = Due.fabric("sample 1 1 0;stage 999 99 1;link a 9 4 99 0 3;link b 1 4 99 0 99;flow f 80 a b;");
        z.tick(1);
        // of these ticks alone: the first one has losses and a notice, too
        int[] before = {z.count(4), z.count(5), 0, z.count(6)};
        LosslessFabric then = Due.fabric("sample 1 1 0;stage 999 99 1;link a 9 4 99 0 3;link b 1 4 99 0 99;flow f 80 a b;");
        then.tick(7);
        int[] after = {then.count(4), then.count(5), 0, then.count(6)};
        for (int what = 0; what <= 3; what++) {
            Due.is("chance(0, 6, 0, " + what + ")", z.chance(0, 6, 0, what), after[what] - before[what]);
        }
        Due.is("some are LOST, some NOTICES come", after[1] - before[1] > 0 && after[3] - before[3] > 0, true);
        LosslessFabric v = Due.fabric(CALM + "link a 1 0 1 0 9;link b 1 0 1 0 9;flow f 16 a b;flow g 8 b a;");
        // b carries the cell of f in the second tick, that of g in the third
        Due.is("behind the third TICK on", v.chance(0, 200, 0, 2), 198);
        Due.is("behind the second there was none", v.chance(0, 2, 0, 2), 0);
        v.tick(3);
        Due.is("now, but that is behind no TICK of these", v.chance(0, 1, 0, 2), 1);
    }

    private static void chanceRefused() {
        Sentence.of(32, "NONE: no such ones.");
        for (int seed : new int[] {-2, -3, Integer.MIN_VALUE}) {
            Shown.refused("chance(" + seed + ", 1, 1, 0)", Rich::fabric, x -> x.chance(seed, 1, 1, 0), -1);
        }
        for (int n : new int[] {0, -1, 201, Integer.MIN_VALUE, Integer.MAX_VALUE}) {
            Shown.refused("chance(0, " + n + ", 1, 0)", Rich::fabric, x -> x.chance(0, n, 1, 0), -1);
        }
        for (int p : new int[] {-1, 101, Integer.MIN_VALUE, Integer.MAX_VALUE}) {
            Shown.refused("chance(0, 1, " + p + ", 0)", Rich::fabric, x -> x.chance(0, 1, p, 0), -1);
        }
        for (int what : new int[] {-1, 4, Integer.MIN_VALUE, Integer.MAX_VALUE}) {
            Shown.refused("chance(0, 1, 1, " + what + ")", Rich::fabric, x -> x.chance(0, 1, 1, what), -1);
        }
        Due.is("of a new one", new LosslessFabric().chance(0, 201, 1, 0), -1);
        Due.is("of a new one", new LosslessFabric().chance(-2, 1, 1, 0), -1);
    }
}
