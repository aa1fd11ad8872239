/** The edges of a tick: terms, part 2. Its steps in their order. */
final class TickEdges {
    private static final int TERMS = Sentence.TERMS;
    private static final String CALM = Fill.CALM;

    private TickEdges() {
    }

    static void all() {
        queues();
        creditAtFirst();
        creditHeld();
        wholeCells();
        asItIsNow();
        pausedCarriesNone();
        capAndRounds();
        roundsOfEight();
        takenOff();
        sentByTheFirstLink();
        aboveSize();
        sizeBelowTheQueue();
        xoffOrMore();
        xonOrLess();
        farthestBounds();
        asItWas();
        delays();
        oneSample();
        lostOnesAside();
        flowThatIsMet();
        lessByEach();
        feedback();
        aboveZero();
        noticesHeld();
        noticesInOrder();
        cuts();
        stagesAndCounts();
        countsOfFlowsThatAreOn();
        countOfCells();
        countOfTicks();
        bothAboveFive();
        oneAboveFive();
        targetHeld();
        targetAtFirst();
    }

    private static LosslessFabric calm(String text) {
        return Due.fabric(CALM + text);
    }

    private static void queues() {
        Sentence.of(TERMS, "A QUEUE of a LINK: cells of each FLOW that came by it and go on by their next LINK;");
        LosslessFabric x = calm("link a 9 4 99 0 99;link b 1 4 99 0 99;link c 1 4 99 0 99;flow f 48 a b;flow g 32 a c;flow h 16 a;");
        x.tick(1);
        Due.is("cells of f", x.queue(0, 0), 3);
        Due.is("cells of g", x.queue(0, 1), 2);
        Due.is("h goes on by none", x.queue(0, 2), 0);
        Due.is("all of them", x.link(0, 5), 5);
        Due.is("b has none yet", x.queue(1, 0), 0);
        Sentence.of(TERMS, "by its last LINK a cell is DELIVERED, it is in no QUEUE.");
        Due.is("h has one LINK", x.flow(2, 5), 1);
        x.tick(1);
        Due.is("f by b", x.flow(0, 5), 1);
        Due.is("b has none", x.queue(1, 0) + x.link(1, 5) + x.link(1, 9), 0);
        LosslessFabric y = calm("link a 1 0 9 0 9;link b 1 0 9 0 9;link c 1 0 9 0 9;link d 1 0 9 0 9;link e 1 0 9 0 9;flow f 16 a b c d e;");
        for (int t = 1; t <= 6; t++) {
            y.tick(1);
            Due.is("by five LINKS behind TICK " + t, y.flow(0, 5), Math.max(0, t - 4));
            Due.is("the fourth QUEUE", y.link(3, 5), t >= 4 ? 1 : 0);
            Due.is("the fifth QUEUE", y.link(4, 5), 0);
        }
    }

    private static void creditAtFirst() {
        Sentence.of(TERMS, "CREDIT of a FLOW (16ths of cells, 0 at first).");
        LosslessFabric x = calm("link a 9 0 9 0 9;flow f 15 a;flow g 1024 a;");
        Due.is("f", x.flow(0, 8), 0);
        Due.is("g", x.flow(1, 8), 0);
        x.tick(1);
        Due.is("15 of 16", x.flow(0, 8), 15);
    }

    /** The first flow takes all of the link, so the second one's credit only grows. */
    private static void creditHeld() {
        Sentence.of(TERMS, "(1) CREDIT of each FLOW that is ON is more by RATE, 1024 at most.");
        int[][] due = {{1, 1, 2, 3, 4}, {341, 341, 682, 1023, 1024}, {511, 511, 1022, 1024, 1024}, {512, 512, 1024, 1024, 1024},
            {513, 513, 1024, 1024, 1024}, {1023, 1023, 1024, 1024, 1024}, {1024, 1024, 1024, 1024, 1024}};
        for (int[] credits : due) {
            LosslessFabric x = calm("link a 1 0 9 0 9;flow z 1024 a;flow f " + credits[0] + " a;");
            for (int t = 1; t < credits.length; t++) {
                x.tick(1);
                Due.is("RATE " + credits[0] + ", TICK " + t, x.flow(1, 8), credits[t]);
                Due.is("and what is carried is off", x.flow(0, 8), 1008);
            }
            x.turn(1);
            x.tick(1);
            Due.is("OFF: no more", x.flow(1, 8), credits[credits.length - 1]);
        }
    }

    private static void wholeCells() {
        Sentence.of(TERMS, "(2) What each LINK can carry: of each FLOW it is on: whole cells of CREDIT, if it is its first LINK,");
        int[][] due = {{1, 0, 1}, {15, 0, 15}, {16, 1, 0}, {17, 1, 1}, {31, 1, 15}, {32, 2, 0}, {1023, 63, 15}, {1024, 64, 0}};
        for (int[] d : due) {
            LosslessFabric x = calm("link a 64 0 9 0 9;flow f " + d[0] + " a;");
            x.tick(1);
            Due.is("RATE " + d[0] + ": SENT", x.flow(0, 4), d[1]);
            Due.is("RATE " + d[0] + ": CREDIT", x.flow(0, 8), d[2]);
        }
    }

    private static void asItIsNow() {
        Sentence.of(TERMS, "else what the QUEUE of the LINK ahead of it has of it; all as it is now.");
        for (String path : new String[] {"a b c", "c b a", "b a c", "c a b"}) {
            LosslessFabric x = calm("link a 9 0 9 0 9;link b 9 0 9 0 9;link c 9 0 9 0 9;flow f 16 " + path + ";");
            int[] queues = {1, 0, 1, 1, 1, 1};
            for (int t = 1; t <= 3; t++) {
                x.tick(1);
                Due.is(path + ": first QUEUE, TICK " + t, x.link(x.path(0, 0), 5), 1);
                Due.is(path + ": second QUEUE, TICK " + t, x.link(x.path(0, 1), 5), queues[2 * t - 1]);
                Due.is(path + ": DELIVERED, TICK " + t, x.flow(0, 5), t == 3 ? 1 : 0);
            }
        }
        LosslessFabric y = calm("link a 9 0 99 0 99;link b 9 0 99 0 99;link c 1 0 99 0 99;flow f 48 a b;flow g 48 a c;");
        y.tick(2);
        Due.is("b carries what is of f", y.link(1, 12), 3);
        Due.is("c carries one of g", y.link(2, 12), 1);
        Due.is("of f there are the next ones", y.queue(0, 0), 3);
        Due.is("of g there are two more", y.queue(0, 1), 5);
    }

    private static void pausedCarriesNone() {
        Sentence.of(TERMS, "LINK by LINK, if it isn't PAUSED:");
        LosslessFabric x = calm("link a 2 0 2 0 99;link b 1 4 9 0 9;flow f 32 a b;");
        int[] carried = {2, 0, 0, 2};
        int[] queue = {2, 1, 0, 2};
        int[] credit = {0, 32, 64, 64};
        for (int t = 0; t < 4; t++) {
            Due.is("PAUSED in TICK " + (t + 1), x.link(0, 7), t == 1 || t == 2 ? 1 : 0);
            x.tick(1);
            Due.is("CARRIED in TICK " + (t + 1), x.link(0, 12), carried[t]);
            Due.is("QUEUE behind TICK " + (t + 1), x.link(0, 5), queue[t]);
            Due.is("CREDIT behind TICK " + (t + 1), x.flow(0, 8), credit[t]);
        }
    }

    private static void capAndRounds() {
        Sentence.of(TERMS, "round by round, FLOWS by numbers, each of which has a cell left gives one, till CAP have come or none has any:");
        for (int cap : new int[] {1, 2, 5, 63, 64}) {
            for (int cells = cap - 1; cells <= Math.min(64, cap + 1); cells++) {
                LosslessFabric x = calm("link a " + cap + " 0 9 0 9;flow f " + Math.max(1, 16 * cells) + " a;");
                x.tick(1);
                Due.is("CAP " + cap + ", " + cells + " cells", x.link(0, 12), Math.min(cap, cells));
            }
        }
        // CAP, cells of three flows, what each gives
        int[][] due = {{1, 2, 2, 2, 1, 0, 0}, {2, 2, 2, 2, 1, 1, 0}, {3, 2, 2, 2, 1, 1, 1}, {4, 2, 2, 2, 2, 1, 1}, {5, 2, 2, 2, 2, 2, 1},
            {6, 2, 2, 2, 2, 2, 2}, {7, 2, 2, 2, 2, 2, 2}, {5, 1, 9, 9, 1, 2, 2}, {6, 1, 9, 9, 1, 3, 2}, {5, 0, 9, 1, 0, 4, 1},
            {64, 32, 32, 32, 22, 21, 21}, {64, 32, 32, 0, 32, 32, 0}, {63, 32, 32, 0, 32, 31, 0}, {64, 1, 1, 64, 1, 1, 62}};
        for (int[] d : due) {
            LosslessFabric x = calm("link a " + d[0] + " 0 9 0 9;flow f " + Math.max(1, 16 * d[1]) + " a;flow g " + Math.max(1, 16 * d[2])
                + " a;flow h " + Math.max(1, 16 * d[3]) + " a;");
            x.tick(1);
            for (int f = 0; f < 3; f++) {
                Due.is("CAP " + d[0] + ", of " + d[1] + " " + d[2] + " " + d[3] + " flow " + f, x.flow(f, 4), d[4 + f]);
            }
        }
    }

    /** Eight flows, a flow less in each round, for every CAP: the last one may have much more. */
    private static void roundsOfEight() {
        Sentence.of(TERMS, "each of which has a cell left gives one, till CAP have come or none has any:");
        int[][] cells = {{1, 2, 3, 4, 5, 6, 7, 8}, {8, 7, 6, 5, 4, 3, 2, 1}, {1, 2, 3, 4, 5, 6, 7, 64}, {64, 1, 2, 3, 4, 5, 6, 7},
            {1, 2, 1, 2, 1, 2, 1, 2}, {64, 64, 64, 64, 64, 64, 64, 64}};
        for (int[] have : cells) {
            for (int cap = 1; cap <= 64; cap++) {
                rounds(have, cap);
            }
        }
    }

    private static void rounds(int[] have, int cap) {
        StringBuilder s = new StringBuilder(CALM + "link a " + cap + " 0 9 0 9;");
        int all = 0;
        for (int f = 0; f < 8; f++) {
            all += have[f];
            s.append("flow ").append((char) ('a' + f)).append(' ').append(16 * have[f]).append(" a;");
        }
        int[] given = new int[8];
        for (int f = 0, come = 0; come < Math.min(cap, all); f = (f + 1) % 8) {
            if (have[f] > given[f]) {
                given[f]++;
                come++;
            }
        }
        LosslessFabric x = Due.fabric(s.toString());
        x.tick(1);
        Due.is("CARRIED", x.link(0, 12), Math.min(cap, all));
        for (int f = 0; f < 8; f++) {
            Due.is("CAP " + cap + ", flow " + f + " of " + have[f] + " cells", x.flow(f, 4), given[f]);
        }
    }

    private static void takenOff() {
        Sentence.of(TERMS, "these are CARRIED: off CREDIT (16 each), off the QUEUE ahead;");
        LosslessFabric x = calm("link a 3 0 99 0 99;link b 2 0 99 0 99;flow f 100 a b;");
        x.tick(1);
        Due.is("100 less 48", x.flow(0, 8), 52);
        Due.is("QUEUE", x.queue(0, 0), 3);
        x.tick(1);
        Due.is("152 less 48", x.flow(0, 8), 104);
        Due.is("3 less 2, 3 more", x.queue(0, 0), 4);
        Due.is("CARRIED by a", x.link(0, 12), 3);
        Due.is("CARRIED by b", x.link(1, 12), 2);
    }

    private static void sentByTheFirstLink() {
        Sentence.of(TERMS, "SENT of a FLOW counts those by its first LINK.");
        LosslessFabric x = calm("link a 9 0 99 0 99;link b 9 0 99 0 99;link c 9 0 99 0 99;flow f 32 c a b;");
        for (int t = 1; t <= 4; t++) {
            x.tick(1);
            Due.is("SENT behind TICK " + t, x.flow(0, 4), 2 * t);
        }
    }

    private static void aboveSize() {
        Sentence.of(TERMS, "what it CARRIED comes to its QUEUE (or is DELIVERED), FLOWS by numbers, what would be above SIZE is LOST.");
        for (int size : new int[] {1, 2, 5, 62, 63}) {
            for (int cells = size - 1; cells <= size + 1; cells++) {
                LosslessFabric x = calm("link a 64 0 999 0 " + size + ";link b 1 4 9 0 9;flow f " + Math.max(1, 16 * cells) + " a b;");
                x.tick(1);
                Due.is("SIZE " + size + ", " + cells + " cells: QUEUE", x.link(0, 5), Math.min(size, cells));
                Due.is("SIZE " + size + ", " + cells + " cells: LOST", x.link(0, 8), Math.max(0, cells - size));
                Due.is("SENT all the same", x.flow(0, 4), cells);
                Due.is("CARRIED all the same", x.link(0, 12), cells);
            }
        }
        for (int size = 1; size <= 7; size++) {
            LosslessFabric x = calm("link a 6 0 999 0 " + size + ";link b 1 4 9 0 9;flow f 48 a b;flow g 48 a b;flow h 16 a;");
            x.tick(1);
            Due.is("SIZE " + size + ": f comes first", x.queue(0, 0), Math.min(3, size));
            Due.is("SIZE " + size + ": then g, which gave two", x.queue(0, 1), Math.max(0, Math.min(2, size - 3)));
            Due.is("SIZE " + size + ": h is DELIVERED, never LOST", x.flow(2, 5), 1);
            Due.is("SIZE " + size + ": LOST", x.link(0, 8), Math.max(0, 5 - size));
        }
        // what goes on in a tick makes room for what comes in it
        LosslessFabric y = calm("link a 1 0 99 0 1;link b 1 4 9 0 9;flow f 16 a b;");
        y.tick(9);
        Due.is("a full QUEUE that gives one takes one", y.link(0, 8), 0);
        Due.is("it is full", y.link(0, 5), 1);
        LosslessFabric z = Fill.held(CALM);
        z.size(0, 3);
        Fill.come(z, 4);
        Due.is("LOST in all", z.count(5), 1);
        z.rate(Fill.HELD, 32);
        z.tick(1);
        Due.is("a full QUEUE takes none", z.link(0, 8), 3);
        Due.is("it stays", z.link(0, 5), 3);
    }

    private static void sizeBelowTheQueue() {
        Sentence.of(TERMS, "what would be above SIZE is LOST.");
        LosslessFabric x = calm("link a 5 0 99 0 99;link b 2 4 9 0 9;flow f 80 a b;");
        x.tick(1);
        x.size(0, 2);
        int[] queue = {3, 2, 2};
        int[] lost = {5, 9, 12};
        for (int t = 0; t < 3; t++) {
            x.tick(1);
            Due.is("QUEUE", x.link(0, 5), queue[t]);
            // 5 less 2 is above 2; 3 less 2 leaves room for one; 2 less 2 leaves room for two
            Due.is("LOST", x.link(0, 8), lost[t]);
        }
    }

    private static void xoffOrMore() {
        Sentence.of(TERMS, "(4) ASKED of a LINK: if its QUEUE (all FLOWS) is XOFF or more: pause;");
        for (int xoff : new int[] {1, 2, 5, 63}) {
            for (int cells = xoff - 1; cells <= xoff + 1; cells++) {
                LosslessFabric x = calm("link a 64 4 " + xoff + " 0 99;link b 1 4 9 0 9;flow f " + Math.max(1, 16 * cells) + " a b;");
                x.tick(1);
                Due.is("XOFF " + xoff + ", " + cells + " cells", x.link(0, 6), cells >= xoff ? 1 : 0);
                Due.is("how many ASKED", x.count(8), cells >= xoff ? 1 : 0);
            }
        }
        for (int xoff = 3; xoff <= 5; xoff++) {
            LosslessFabric x = calm("link a 64 4 " + xoff + " 0 99;link b 1 4 9 0 9;flow f 32 a b;flow g 32 a b;");
            x.tick(1);
            Due.is("two FLOWS, four cells, XOFF " + xoff, x.link(0, 6), xoff <= 4 ? 1 : 0);
        }
    }

    private static void xonOrLess() {
        Sentence.of(TERMS, "if it is XON or less: go;");
        for (int xon = 0; xon <= 4; xon++) {
            LosslessFabric x = calm("link a 64 4 5 " + xon + " 99;link b 1 4 9 0 9;flow f 80 a b;");
            x.tick(1);
            x.turn(0);
            for (int queue = 4; queue >= 0; queue--) {
                x.tick(1);
                Due.is("QUEUE", x.link(0, 5), queue);
                Due.is("XON " + xon + ", QUEUE " + queue, x.link(0, 6), queue <= xon ? 0 : 1);
            }
        }
    }

    private static void farthestBounds() {
        Sentence.of(TERMS, "if its QUEUE (all FLOWS) is XOFF or more: pause; if it is XON or less: go;");
        for (int xon = 996; xon <= 998; xon++) {
            LosslessFabric x = calm("link a 64 0 999 " + xon + " 1999;link b 1 4 9 0 9;flow f 1024 a b;");
            x.tick(15);
            Due.is("64, and 63 each TICK", x.link(0, 5), 946);
            x.rate(0, 53 * 16);
            x.tick(1);
            Due.is("QUEUE", x.link(0, 5), 998);
            Due.is("998 is no pause", x.link(0, 6), 0);
            x.rate(0, 32);
            x.tick(1);
            Due.is("QUEUE", x.link(0, 5), 999);
            Due.is("999 is", x.link(0, 6), 1);
            x.turn(0);
            for (int queue = 998; queue >= 996; queue--) {
                x.tick(1);
                Due.is("QUEUE", x.link(0, 5), queue);
                Due.is("XON " + xon + ", QUEUE " + queue, x.link(0, 6), queue <= xon ? 0 : 1);
            }
        }
    }

    private static void asItWas() {
        Sentence.of(TERMS, "else as it was (go at first).");
        LosslessFabric x = calm("link a 64 0 5 1 99;link b 1 4 9 0 9;flow f 48 a b;");
        Due.is("ahead of all", x.link(0, 6), 0);
        int[] queue = {3, 5, 4, 3, 2, 1, 3, 4};
        int[] rates = {48, 48, 0, 0, 0, 0, 48, 32};
        int[] asked = {0, 1, 1, 1, 1, 0, 0, 0};
        for (int t = 0; t < queue.length; t++) {
            if (x.flow(0, 7) != (rates[t] > 0 ? 1 : 0)) {
                x.turn(0);
            }
            x.rate(0, Math.max(1, rates[t]));
            x.tick(1);
            Due.is("QUEUE " + t, x.link(0, 5), queue[t]);
            Due.is("ASKED " + t, x.link(0, 6), asked[t]);
        }
    }

    private static void delays() {
        Sentence.of(TERMS, "PAUSED in a TICK: what it ASKED DELAY and 1 TICKS ahead (go ahead of all).");
        for (int delay = 0; delay <= 4; delay++) {
            LosslessFabric x = calm("link a 6 " + delay + " 1 0 99;link b 1 0 99 0 99;flow f 96 a b;");
            int first = delay + 2;
            // so many came till then, one goes each tick but the first
            int empty = 6 * (delay + 1) + 1;
            for (int t = 1; t <= empty + delay + 1; t++) {
                boolean paused = t >= first && t <= empty + delay;
                Due.is("DELAY " + delay + ", PAUSED in " + t, x.link(0, 7), paused ? 1 : 0);
                x.tick(1);
                Due.is("DELAY " + delay + ", CARRIED in " + t, x.link(0, 12), paused ? 0 : 6);
                Due.is("DELAY " + delay + ", ASKED in " + t, x.link(0, 6), t < empty || t > empty + delay ? 1 : 0);
            }
        }
    }

    private static void oneSample() {
        Sentence.of(TERMS, "(5) LINK by LINK, one SAMPLE at most:");
        for (int each : new int[] {1, 2, 5, 20, 32, 64}) {
            for (int cells : new int[] {each - 1, each, each + 1, 2 * each - 1, 2 * each, 2 * each + 1, 64}) {
                if (cells >= 1 && cells <= 64) {
                    LosslessFabric x = Fill.held("sample " + each + " 500 0;stage 999 99 1;", cells);
                    Due.is("EACH " + each + ", " + cells + " cells: SAMPLES", x.link(0, 10), cells >= each ? 1 : 0);
                    Due.is("EACH " + each + ", " + cells + " cells: counted", x.link(0, 13), cells % each);
                    Due.is("what is DELIVERED is not counted", x.link(1, 10) + x.link(1, 13), 0);
                }
            }
        }
    }

    private static void lostOnesAside() {
        Sentence.of(TERMS, "cells that came to its QUEUE (LOST ones aside) are counted, FLOWS by numbers;");
        for (int each = 2; each <= 4; each++) {
            LosslessFabric x = Fill.held("sample " + each + " 500 0;stage 999 99 1;");
            x.size(0, 3);
            Fill.come(x, 5);
            Due.is("LOST", x.link(0, 8), 2);
            Due.is("EACH " + each + ", three came: SAMPLES", x.link(0, 10), each <= 3 ? 1 : 0);
            Due.is("EACH " + each + ", three came: counted", x.link(0, 13), 3 % each);
            Fill.come(x, 5);
            Due.is("none came: SAMPLES", x.link(0, 10), each <= 3 ? 1 : 0);
            Due.is("none came: counted", x.link(0, 13), 3 % each);
        }
    }

    private static void flowThatIsMet() {
        Sentence.of(TERMS, "if the count comes to EACH or more: the FLOW by whose cells it does so first is met;");
        for (int each = 1; each <= 10; each++) {
            LosslessFabric x = Due.fabric("sample " + each + " 1 0;stage 999 99 1;link a 64 0 999 0 1999;link b 1 4 999 0 1999;"
                + "flow f 48 a b;flow g 48 a b;flow h 48 a b;");
            x.tick(1);
            int met = (each - 1) / 3;
            for (int f = 0; f < 3; f++) {
                Due.is("EACH " + each + ", NOTICES of " + f, x.flow(f, 6), f == met ? 1 : 0);
            }
            Due.is("EACH " + each + ", NOTICES of a", x.link(0, 11), each <= 9 ? 1 : 0);
        }
        // what was counted ahead counts too: four, then the first flow that has a cell
        LosslessFabric y = Due.fabric("sample 5 1 0;stage 999 99 1;link a 64 0 999 0 1999;link b 1 4 999 0 1999;flow f 1 a b;flow g 64 a b;");
        y.tick(1);
        Due.is("four of g", y.link(0, 13), 4);
        Due.is("no SAMPLE", y.link(0, 10), 0);
        y.rate(0, 15);
        y.tick(1);
        Due.is("the fifth is of f", y.flow(0, 6), 1);
        Due.is("not of g", y.flow(1, 6), 0);
        Due.is("4 and 1 and 4 less 5", y.link(0, 13), 4);
    }

    private static void lessByEach() {
        Sentence.of(TERMS, "behind all FLOWS the count is less by EACH as often as it goes;");
        for (int each = 1; each <= 10; each++) {
            LosslessFabric x = Due.fabric("sample " + each + " 500 0;stage 999 99 1;link a 64 0 999 0 1999;link b 1 4 999 0 1999;"
                + "flow f 48 a b;flow g 48 a b;flow h 48 a b;");
            int counted = 0;
            for (int t = 1; t <= 4; t++) {
                x.tick(1);
                counted = (counted + 9) % each;
                Due.is("EACH " + each + ", TICK " + t, x.link(0, 13), counted);
            }
        }
    }

    private static void feedback() {
        Sentence.of(TERMS, "FEEDBACK is the QUEUE less MIDDLE, and WEIGHT times (the QUEUE less what it was at the last SAMPLE of the LINK, 0 at first);");
        LosslessFabric x = Fill.held("sample 5 100 3;stage 999 99 1;");
        Due.is("empty", x.feedback(0), -100);
        Fill.come(x, 4);
        Due.is("4 of 0 at first", x.feedback(0), 4 - 100 + 3 * 4);
        Fill.come(x, 1);
        Due.is("sampled without a NOTICE", x.link(0, 10) * 10 + x.link(0, 11), 10);
        Due.is("5 of 5", x.feedback(0), 5 - 100);
        Fill.come(x, 4);
        Due.is("9 of 5", x.feedback(0), 9 - 100 + 3 * 4);
        Fill.come(x, 1);
        Due.is("10 of 10", x.feedback(0), 10 - 100);
        LosslessFabric y = Due.fabric("sample 6 10 4;stage 999 99 1;link a 9 4 99 0 99;link b 1 4 99 0 99;flow f 96 a b;");
        y.tick(1);
        y.turn(0);
        y.tick(2);
        Due.is("it falls: 4 of 6", y.feedback(0), 4 - 10 + 4 * (4 - 6));
    }

    private static void aboveZero() {
        Sentence.of(TERMS, "if it is above 0: a NOTICE");
        for (int middle : new int[] {1, 2, 5, 64, 499, 500}) {
            for (int cells = Math.max(1, middle - 1); cells <= middle + 1; cells++) {
                LosslessFabric x = Fill.held("sample " + cells + " " + middle + " 0;stage 999 99 1;", cells);
                Due.is("MIDDLE " + middle + ", QUEUE " + cells + ": SAMPLES", x.link(0, 10), 1);
                Due.is("MIDDLE " + middle + ", QUEUE " + cells + ": NOTICES", x.link(0, 11), cells > middle ? 1 : 0);
                Due.is("MIDDLE " + middle + ", QUEUE " + cells + ": of the FLOW", x.flow(Fill.HELD, 6), cells > middle ? 1 : 0);
                Due.is("MIDDLE " + middle + ", QUEUE " + cells + ": notice()", x.notice(0) > 0, cells > middle);
            }
        }
        // WEIGHT 4: five times the queue less MIDDLE
        for (int middle = 49; middle <= 51; middle++) {
            LosslessFabric x = Fill.held("sample 10 " + middle + " 4;stage 999 99 1;", 10);
            Due.is("50 less " + middle, x.link(0, 11), middle < 50 ? 1 : 0);
        }
    }

    private static void noticesHeld() {
        Sentence.of(TERMS, "of FEEDBACK times 64 by (MIDDLE times (1 and 2 WEIGHT)), downwards, 1 .. 63 (held).");
        // MIDDLE, WEIGHT, QUEUE, NOTICE
        int[][] due = {{64, 0, 64, 0}, {64, 0, 65, 1}, {64, 0, 66, 2}, {64, 0, 126, 62}, {64, 0, 127, 63}, {64, 0, 128, 63}, {64, 0, 129, 63},
            {64, 0, 900, 63}, {65, 0, 66, 1}, {65, 0, 67, 1}, {65, 0, 68, 2}, {1, 0, 1, 0}, {1, 0, 2, 63}, {500, 4, 100, 0}, {500, 4, 101, 1},
            {500, 4, 114, 1}, {500, 4, 115, 1}, {500, 4, 128, 1}, {500, 4, 129, 2}, {500, 4, 985, 62}, {500, 4, 986, 63}, {500, 4, 998, 63},
            {10, 1, 5, 0}, {10, 1, 6, 4}, {10, 1, 19, 59}, {10, 1, 20, 63}, {500, 0, 501, 1}, {500, 0, 515, 1}, {500, 0, 516, 2}};
        for (int[] d : due) {
            LosslessFabric x = Fill.held("sample 999 " + d[0] + " " + d[1] + ";stage 999 99 1;", d[2]);
            Due.is("MIDDLE " + d[0] + ", WEIGHT " + d[1] + ", QUEUE " + d[2], x.notice(0), d[3]);
        }
    }

    /** Both links meet f in the fourth tick: the queue of the first is 65, of the second 15. */
    private static void noticesInOrder() {
        Sentence.of(TERMS, "(6) NOTICES in that order: TARGET of the FLOW becomes RATE,");
        String first = " 20 4 999 0 1999;";
        String second = " 5 4 999 0 1999;";
        String rest = "link c 1 4 999 0 1999;flow z 1024 c;";
        String settings = "sample 1 10 0;stage 999 99 1;";
        LosslessFabric x = Due.fabric(settings + "link a" + first + "link b" + second + rest + "flow f 320 a b c;");
        LosslessFabric y = Due.fabric(settings + "link b" + second + "link a" + first + rest + "flow f 320 a b c;");
        for (int t = 1; t <= 4; t++) {
            x.rate(1, 320);
            x.tick(1);
            y.rate(1, 320);
            y.tick(1);
        }
        Due.is("QUEUES", x.link(0, 5) * 1000 + x.link(1, 5), 65015);
        Due.is("NOTICES of the second", x.link(1, 11), 1);
        Due.is("63 first: 320 less 157", x.flow(1, 1), 163);
        Due.is("then 32: 163 less 40", x.flow(1, 0), 123);
        Due.is("QUEUES", y.link(1, 5) * 1000 + y.link(0, 5), 65015);
        Due.is("32 first: 320 less 80", y.flow(1, 1), 240);
        Due.is("then 63: 240 less 118", y.flow(1, 0), 122);
    }

    private static void cuts() {
        Sentence.of(TERMS, "RATE is less by RATE times the NOTICE by 128, downwards (1 at least);");
        // RATE, NOTICE, RATE then
        int[][] due = {{1, 1, 1}, {1, 63, 1}, {2, 63, 2}, {3, 63, 2}, {4, 63, 3}, {5, 63, 3}, {15, 63, 8}, {16, 63, 9}, {127, 1, 127}, {128, 1, 127},
            {255, 1, 254}, {256, 1, 254}, {128, 63, 65}, {129, 63, 66}, {1023, 1, 1016}, {1024, 1, 1016}, {1024, 63, 520}};
        for (int[] d : due) {
            int rate = d[0];
            int queue = 64 + d[1];
            int cells = Math.max(1, rate / 16);
            LosslessFabric x = Fill.held("sample " + queue + " 64 0;stage 999 99 1;", queue - cells);
            if (rate < 16) {
                // the rest of one cell comes ahead, so that this rate makes it whole
                x.rate(Fill.HELD, 16 - rate);
                x.tick(1);
            }
            Due.is("no SAMPLE yet", x.link(0, 10), 0);
            x.rate(Fill.HELD, rate);
            x.tick(1);
            Due.is("a NOTICE", x.flow(Fill.HELD, 6), 1);
            Due.is("RATE " + rate + ", NOTICE " + d[1], x.flow(Fill.HELD, 0), d[2]);
            Due.is("TARGET", x.flow(Fill.HELD, 1), rate);
        }
    }

    private static void stagesAndCounts() {
        Sentence.of(TERMS, "its STAGES, its counts of (7) become 0.");
        LosslessFabric x = Fill.held("sample 40 1 0;stage 7 2 1;");
        // STAGE 0, STAGE 1, cells, TICKS behind each tick of ten cells; the fourth has the NOTICE
        int[][] due = {{1, 0, 3, 1}, {2, 1, 6, 0}, {4, 1, 2, 1}, {1, 0, 3, 1}};
        for (int t = 0; t < due.length; t++) {
            Fill.come(x, 10);
            Due.is("NOTICES " + t, x.flow(Fill.HELD, 6), t == 3 ? 1 : 0);
            Due.is("STAGE 0 " + t, x.flow(Fill.HELD, 2), due[t][0]);
            Due.is("STAGE 1 " + t, x.flow(Fill.HELD, 3), due[t][1]);
            Due.is("cells " + t, x.flow(Fill.HELD, 10), due[t][2]);
            Due.is("TICKS " + t, x.flow(Fill.HELD, 11), due[t][3]);
        }
    }

    private static void countsOfFlowsThatAreOn() {
        Sentence.of(TERMS, "(7) FLOW by FLOW that is ON: the count of cells is more by those SENT in this TICK;");
        LosslessFabric x = calm("link a 1 0 9 0 9;flow f 64 a;");
        x.tick(1);
        Due.is("cells, TICKS", x.flow(0, 10) * 10 + x.flow(0, 11), 11);
        x.turn(0);
        x.tick(3);
        Due.is("what CREDIT has is SENT", x.flow(0, 4), 4);
        Due.is("OFF: no count", x.flow(0, 10) * 10 + x.flow(0, 11), 11);
        x.turn(0);
        x.tick(1);
        Due.is("ON: those of this TICK alone", x.flow(0, 10) * 10 + x.flow(0, 11), 22);
        LosslessFabric z = calm("link a 1 0 9 0 9;flow f 8 a;");
        for (int t = 1; t <= 6; t++) {
            z.tick(1);
            Due.is("a cell each two TICKS", z.flow(0, 10), t / 2);
        }
        LosslessFabric y = calm("link a 1 0 9 0 9;flow f 64 a;flow g 1 a;off f;");
        y.tick(2);
        Due.is("OFF from the first", y.flow(0, 10) + y.flow(0, 11) + y.flow(0, 8), 0);
        Due.is("ON", y.flow(1, 11), 2);
    }

    private static void countOfCells() {
        Sentence.of(TERMS, "as long as it is CELLS or more: less by CELLS, STAGE 0 one more, it CLIMBS.");
        for (int cells : new int[] {1, 2, 5, 20, 31, 32, 63, 64}) {
            for (int sent : new int[] {cells - 1, cells, cells + 1, 2 * cells - 1, 2 * cells, 2 * cells + 1, 64}) {
                if (sent >= 1 && sent <= 64) {
                    LosslessFabric x = Due.fabric("link a 64 0 9 0 9;flow f " + 16 * sent + " a;stage " + cells + " 99 1;");
                    x.tick(1);
                    Due.is("CELLS " + cells + ", SENT " + sent + ": STAGE 0", x.flow(0, 2), sent / cells);
                    Due.is("CELLS " + cells + ", SENT " + sent + ": count", x.flow(0, 10), sent % cells);
                }
            }
        }
        // it CLIMBS each time: half way to TARGET
        LosslessFabric y = Fill.held("sample 16 1 0;stage 5 99 1;", 16);
        Due.is("TARGET", y.flow(Fill.HELD, 1), 256);
        Due.is("256 less 126: 130, 193, 224, 240", y.flow(Fill.HELD, 0), 240);
    }

    private static void countOfTicks() {
        Sentence.of(TERMS, "The count of TICKS is one more; if it is TICKS: 0, STAGE 1 one more, it CLIMBS.");
        for (int ticks : new int[] {1, 2, 3, 10, 49}) {
            LosslessFabric x = Due.fabric("link a 64 0 9 0 9;flow f 16 a;stage 999 " + ticks + " 1;");
            for (int t = 1; t <= Math.min(2 * ticks + 1, 50); t++) {
                x.tick(1);
                Due.is("TICKS " + ticks + ", TICK " + t + ": STAGE 1", x.flow(0, 3), t / ticks);
                Due.is("TICKS " + ticks + ", TICK " + t + ": count", x.flow(0, 11), t % ticks);
            }
        }
        LosslessFabric y = Fill.held("sample 16 1 0;stage 999 2 1;", 16);
        Due.is("256 less 126", y.flow(Fill.HELD, 0), 130);
        y.tick(1);
        Due.is("half way to TARGET", y.flow(Fill.HELD, 0), 193);
    }

    private static void bothAboveFive() {
        Sentence.of(TERMS, "CLIMBS: if both STAGES are above 5: TARGET is more by MORE times 2 times (the lesser one less 5);");
        // the second flow: nothing of the first one's stages counts
        LosslessFabric x = Due.fabric("link a 64 0 9 0 9;link b 1 0 9 0 9;flow z 1 b;flow f 1 a;stage 1 1 3;");
        x.tick(6);
        Due.is("STAGES 0 and 6", x.flow(1, 2) * 10 + x.flow(1, 3), 6);
        Due.is("CREDIT", x.flow(1, 8), 6);
        climb(x, 80, 5, 7, 80 + 5 * 3 + 3, -1);
        climb(x, 16, 6, 8, 16 + 6 + 6, 23);
        climb(x, 16, 7, 9, 16 + 12 + 12, 31);
        climb(x, 16, 8, 10, 16 + 18 + 18, 38);
        // the lesser one is STAGE 1: seven cells in the first tick, then one each tick
        LosslessFabric y = Due.fabric("link a 64 0 9 0 9;link b 1 0 9 0 9;flow z 1 b;flow f 112 a;stage 1 1 3;");
        y.tick(1);
        Due.is("STAGES 7 and 1", y.flow(1, 2) * 10 + y.flow(1, 3), 71);
        for (int stage = 2; stage <= 5; stage++) {
            climb(y, 16, 6 + stage, stage, 16 + 3 + 3, -1);
        }
        climb(y, 16, 12, 6, 16 + 3 + 6, -1);
        climb(y, 16, 13, 7, 16 + 6 + 12, -1);
        climb(y, 16, 14, 8, 16 + 12 + 18, -1);
    }

    /** A tick of the second flow from a rate on: the stages, TARGET and, if it is told, RATE behind it. */
    private static void climb(LosslessFabric x, int rate, int stage0, int stage1, int target, int then) {
        x.rate(1, rate);
        x.tick(1);
        Due.is("STAGE 0", x.flow(1, 2), stage0);
        Due.is("STAGE 1", x.flow(1, 3), stage1);
        Due.is("TARGET at " + stage0 + ", " + stage1, x.flow(1, 1), target);
        if (then >= 0) {
            Due.is("RATE at " + stage0 + ", " + stage1, x.flow(1, 0), then);
        }
    }

    private static void oneAboveFive() {
        Sentence.of(TERMS, "else if one is above 5: by MORE;");
        int[][] due = {{4, 64, 64}, {5, 80, 80}, {6, 103, 99}, {7, 126, 120}};
        for (int[] d : due) {
            LosslessFabric x = Due.fabric("link a 64 0 9 0 9;flow f " + 16 * d[0] + " a;stage 1 99 7;");
            x.tick(1);
            Due.is("STAGE 0", x.flow(0, 2), d[0]);
            Due.is("STAGE 0 is " + d[0] + ": TARGET", x.flow(0, 1), d[1]);
            Due.is("STAGE 0 is " + d[0] + ": RATE", x.flow(0, 0), d[2]);
        }
        LosslessFabric y = Due.fabric("link a 64 0 9 0 9;flow f 3 a;stage 999 1 7;");
        y.tick(5);
        Due.is("STAGE 1 is 5: TARGET", y.flow(0, 1), 3);
        y.tick(1);
        Due.is("STAGE 1 is 6: TARGET", y.flow(0, 1), 10);
        Due.is("STAGE 1 is 6: RATE", y.flow(0, 0), 6);
    }

    private static void targetHeld() {
        Sentence.of(TERMS, "(1024 at most); then RATE becomes half of RATE and TARGET, downwards.");
        int[][] due = {{1018, 1022, 1020}, {1019, 1023, 1021}, {1020, 1024, 1022}, {1021, 1024, 1022}, {1022, 1024, 1023}, {1023, 1024, 1023},
            {1024, 1024, 1024}};
        for (int[] d : due) {
            LosslessFabric x = Due.fabric("link a 64 0 9 0 9;flow f " + d[0] + " a;stage 999 1 4;");
            x.tick(5);
            Due.is("five STAGES", x.flow(0, 1), d[0]);
            x.tick(1);
            Due.is("RATE " + d[0] + ": TARGET", x.flow(0, 1), d[1]);
            Due.is("RATE " + d[0] + ": RATE then", x.flow(0, 0), d[2]);
        }
        // both stages above 5: 99 times 2 times 1 and more
        LosslessFabric y = Due.fabric("link a 64 0 9 0 9;flow f 1000 a;stage 1 1 99;");
        y.tick(50);
        Due.is("TARGET", y.flow(0, 1), 1024);
        Due.is("1023 and 1024 by two", y.flow(0, 0), 1023);
    }

    private static void targetAtFirst() {
        Sentence.of(TERMS, "TARGET is RATE at first.");
        LosslessFabric x = Due.fabric("link a 1 0 9 0 9;flow f 1 a;flow g 1024 a;off g;");
        Due.is("f", x.flow(0, 1), 1);
        Due.is("g", x.flow(1, 1), 1024);
    }
}
