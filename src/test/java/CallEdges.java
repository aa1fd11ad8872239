/** The edges of the calls that change a fabric and of those that look at it: promises 6 to 16. */
final class CallEdges {
    static final int[] NO_LINK = {-1, 3, 10, Integer.MIN_VALUE, Integer.MAX_VALUE};
    static final int[] NO_FLOW = {-1, 3, 8, Integer.MIN_VALUE, Integer.MAX_VALUE};

    private CallEdges() {
    }

    static void all() {
        tick();
        tickBeyond();
        rate();
        turn();
        bounds();
        size();
        link();
        linkThrows();
        queue();
        flow();
        path();
        feedback();
        notice();
    }

    private static void tick() {
        Sentence.of(6, "n 1 .. 50 TICKS go by: the TICK then;");
        LosslessFabric x = Due.fabric("link a 1 0 9 0 9;flow f 16 a;");
        Due.is("tick(1)", x.tick(1), 1);
        Due.is("SENT", x.count(3), 1);
        Due.is("tick(2)", x.tick(2), 3);
        Due.is("tick(49)", x.tick(49), 52);
        Due.is("tick(50)", x.tick(50), 102);
        Due.is("SENT", x.count(3), 102);
        Due.is("of nothing", new LosslessFabric().tick(50), 50);
        Sentence.of(6, "NONE: no such n.");
        for (int n : new int[] {0, -1, 51, Integer.MIN_VALUE, Integer.MAX_VALUE}) {
            Shown.refused("tick(" + n + ")", Rich::fabric, y -> y.tick(n), -1);
        }
    }

    private static LosslessFabric late(int tick) {
        LosslessFabric x = Due.fabric("link a 1 0 9 0 9;flow f 16 a;");
        for (int t = 0; t < tick / 50; t++) {
            x.tick(50);
        }
        if (tick % 50 > 0) {
            x.tick(tick % 50);
        }
        Due.is("the TICK", x.count(2), tick);
        return x;
    }

    private static void tickBeyond() {
        Sentence.of(6, "-2: it would be beyond 9999;");
        Due.is("9949 and 50", late(9949).tick(50), 9999);
        Due.is("9998 and 1", late(9998).tick(1), 9999);
        Shown.refused("9950 and 50", () -> late(9950), x -> x.tick(50), -2);
        Shown.refused("9998 and 2", () -> late(9998), x -> x.tick(2), -2);
        Shown.refused("9999 and 1", () -> late(9999), x -> x.tick(1), -2);
        Shown.refused("9999 and 50", () -> late(9999), x -> x.tick(50), -2);
        LosslessFabric y = late(9999);
        Due.is("as it goes it goes on", y.flows(0, 300, 2), 300);
        Due.is("what is undone can go by again", y.undo() + y.tick(49), 19 + 9999);
    }

    private static void rate() {
        Sentence.of(7, "RATE and TARGET of a FLOW become r 1 .. 1024: RATE as it was;");
        LosslessFabric x = Rich.fabric();
        int was = x.flow(2, 0);
        for (int r : new int[] {1, 2, 1023, 1024, 1024}) {
            int stages = x.flow(2, 2) * 1000 + x.flow(2, 3);
            Due.is("rate(2, " + r + ")", x.rate(2, r), was);
            Due.is("RATE", x.flow(2, 0), r);
            Due.is("TARGET", x.flow(2, 1), r);
            Due.is("the STAGES stay", x.flow(2, 2) * 1000 + x.flow(2, 3), stages);
            was = r;
        }
        Due.is("the other FLOWS stay", x.flow(0, 0), Rich.fabric().flow(0, 0));
        LosslessFabric y = Fill.held("sample 4 1 0;stage 999 99 1;", 4);
        Due.is("not TARGET as it was", y.rate(Fill.HELD, 7), 64 - 31);
        Due.is("TARGET", y.flow(Fill.HELD, 1), 7);
        Sentence.of(7, "NONE: no such ones.");
        for (int r : new int[] {0, -1, 1025, Integer.MIN_VALUE, Integer.MAX_VALUE}) {
            Shown.refused("rate(0, " + r + ")", Rich::fabric, z -> z.rate(0, r), -1);
        }
        for (int f : NO_FLOW) {
            Shown.refused("rate(" + f + ", 5)", Rich::fabric, z -> z.rate(f, 5), -1);
        }
        Due.is("of a new one", new LosslessFabric().rate(0, 5), -1);
    }

    private static void turn() {
        Sentence.of(8, "A FLOW is turned ON, OFF, the other way: whether it is ON then (1, 0);");
        LosslessFabric x = Rich.fabric();
        for (int f = 0; f <= 2; f++) {
            int was = x.flow(f, 7);
            Due.is("turn(" + f + ")", x.turn(f), 1 - was);
            Due.is("the other way", x.flow(f, 7), 1 - was);
            Due.is("turn(" + f + ")", x.turn(f), was);
            Due.is("and back", x.flow(f, 7), was);
        }
        Sentence.of(8, "NONE: no such FLOW.");
        for (int f : NO_FLOW) {
            Shown.refused("turn(" + f + ")", Rich::fabric, z -> z.turn(f), -1);
        }
        Due.is("of a new one", new LosslessFabric().turn(0), -1);
    }

    private static void bounds() {
        Sentence.of(9, "XOFF, XON of a LINK, as in a text: true;");
        LosslessFabric x = Rich.fabric();
        int[][] good = {{1, 0}, {2, 0}, {2, 1}, {998, 997}, {999, 0}, {999, 997}, {999, 998}, {999, 998}};
        for (int[] b : good) {
            Due.is("bounds(2, " + b[0] + ", " + b[1] + ")", x.bounds(2, b[0], b[1]), true);
            Due.is("XOFF", x.link(2, 2), b[0]);
            Due.is("XON", x.link(2, 3), b[1]);
        }
        Due.is("the other LINKS stay", x.link(0, 2) * 10 + x.link(0, 3), 31);
        Sentence.of(9, "false: no such ones.");
        int[][] bad = {{0, 0}, {0, -1}, {1, 1}, {1, -1}, {2, 2}, {5, 5}, {5, 6}, {5, -1}, {998, 998}, {999, 999}, {1000, 0}, {1000, 998},
            {1000, 999}, {-1, -2}, {Integer.MIN_VALUE, 0}, {Integer.MAX_VALUE, 0}, {5, Integer.MIN_VALUE}, {5, Integer.MAX_VALUE}};
        for (int[] b : bad) {
            Shown.refused("bounds(0, " + b[0] + ", " + b[1] + ")", Rich::fabric, z -> z.bounds(0, b[0], b[1]) ? 1 : 0, 0);
        }
        for (int l : NO_LINK) {
            Shown.refused("bounds(" + l + ", 5, 4)", Rich::fabric, z -> z.bounds(l, 5, 4) ? 1 : 0, 0);
        }
        Due.is("of a new one", new LosslessFabric().bounds(0, 5, 4), false);
    }

    private static void size() {
        Sentence.of(10, "SIZE of a LINK 1 .. 1999 (what is in its QUEUE stays): what it was;");
        LosslessFabric x = Rich.fabric();
        int was = x.link(1, 4);
        int queue = x.link(1, 5);
        Due.is("there are some", queue > 1, true);
        for (int n : new int[] {1, 2, 1998, 1999, 1999, 1}) {
            Due.is("size(1, " + n + ")", x.size(1, n), was);
            Due.is("SIZE", x.link(1, 4), n);
            Due.is("its QUEUE", x.link(1, 5), queue);
            was = n;
        }
        Due.is("the other LINKS stay", x.link(0, 4), 9);
        Due.is("none is LOST by that", x.link(1, 8), Rich.fabric().link(1, 8));
        Sentence.of(10, "NONE: no such ones.");
        for (int n : new int[] {0, -1, 2000, Integer.MIN_VALUE, Integer.MAX_VALUE}) {
            Shown.refused("size(0, " + n + ")", Rich::fabric, z -> z.size(0, n), -1);
        }
        for (int l : NO_LINK) {
            Shown.refused("size(" + l + ", 5)", Rich::fabric, z -> z.size(l, 5), -1);
        }
        Due.is("of a new one", new LosslessFabric().size(0, 5), -1);
    }

    /** f has 5 cells a tick for b: 4 come, the queue has room for 6, one goes; see each tick. */
    private static void link() {
        Sentence.of(11, "Of a LINK, what 0 CAP, 1 DELAY, 2 XOFF, 3 XON, 4 SIZE, 5 its QUEUE, 6 whether it ASKED pause (1, 0), "
            + "7 whether it is PAUSED in the next TICK, 8 LOST in all, 9 the greatest QUEUE so far, 10 SAMPLES so far, "
            + "11 NOTICES so far, 12 CARRIED in the latest TICK, 13 cells counted for the next SAMPLE.");
        LosslessFabric x = Due.fabric("link a 4 1 6 2 6;link b 1 4 99 0 99;flow f 80 a b;sample 5 3 0;stage 999 99 1;");
        // QUEUE, ASKED, PAUSED next, LOST, greatest, SAMPLES, NOTICES, CARRIED, counted
        int[][] due = {{0, 0, 0, 0, 0, 0, 0, 0, 0}, {4, 0, 0, 0, 4, 0, 0, 4, 4}, {6, 1, 0, 1, 6, 1, 1, 4, 2},
            {6, 1, 1, 4, 6, 1, 1, 4, 3}, {5, 1, 1, 4, 6, 1, 1, 0, 3}, {4, 1, 1, 4, 6, 1, 1, 0, 3}, {3, 1, 1, 4, 6, 1, 1, 0, 3},
            {2, 0, 1, 4, 6, 1, 1, 0, 3}, {1, 0, 0, 4, 6, 1, 1, 0, 3}, {4, 0, 0, 4, 6, 2, 2, 4, 2}};
        for (int t = 0; t < due.length; t++) {
            int[] told = {4, 1, 6, 2, 6};
            for (int what = 0; what <= 13; what++) {
                Due.is("TICK " + t + ", link(0, " + what + ")", x.link(0, what), what < 5 ? told[what] : due[t][what - 5]);
            }
            x.tick(1);
        }
        LosslessFabric y = Due.fabric("link a 1 0 1 0 1;link b 64 4 999 998 1999;");
        int[] least = {1, 0, 1, 0, 1};
        int[] most = {64, 4, 999, 998, 1999};
        for (int what = 0; what <= 13; what++) {
            Due.is("least, link(0, " + what + ")", y.link(0, what), what < 5 ? least[what] : 0);
            Due.is("most, link(1, " + what + ")", y.link(1, what), what < 5 ? most[what] : 0);
        }
        LosslessFabric z = Due.fabric("link a 64 0 9 0 9;link b 1 0 9 0 9;link c 1 0 9 0 9;link d 1 0 9 0 9;link e 1 0 9 0 9;link f 1 0 9 0 9;"
            + "link g 1 0 9 0 9;link h 1 0 9 0 9;link i 1 0 9 0 9;link j 63 0 9 0 9;");
        Due.is("the tenth LINK", z.link(9, 0), 63);
    }

    private static void linkThrows() {
        Sentence.of(11, "IndexOutOfBoundsException: no such LINK.");
        for (int l : NO_LINK) {
            for (int what : new int[] {0, 13, 14, -1}) {
                Shown.refused("link(" + l + ", " + what + ")", Rich::fabric, x -> Due.thrownByLink(x, l, what), 1);
            }
        }
        Due.is("of a new one", Due.thrownByLink(new LosslessFabric(), 0, 0), 1);
        Sentence.of(11, "NoSuchElementException: no such what.");
        for (int what : new int[] {-1, 14, Integer.MIN_VALUE, Integer.MAX_VALUE}) {
            Shown.refused("link(2, " + what + ")", Rich::fabric, x -> Due.thrownByLink(x, 2, what), 2);
        }
        for (int what = 0; what <= 13; what++) {
            Due.is("link(2, " + what + ")", Due.thrownByLink(Rich.fabric(), 2, what), 0);
        }
    }

    private static void queue() {
        Sentence.of(12, "Cells of a FLOW in the QUEUE of a LINK;");
        LosslessFabric x = Rich.fabric();
        int cells = 0;
        for (int l = 0; l <= 2; l++) {
            int all = 0;
            for (int f = 0; f <= 2; f++) {
                all += x.queue(l, f);
            }
            Due.is("all FLOWS in the QUEUE of " + l, all, x.link(l, 5));
            cells += all;
        }
        Due.is("there are some", cells > 5, true);
        Due.is("f does not go by c", x.queue(2, 0), 0);
        Due.is("a is the last LINK of g", x.queue(0, 1), 0);
        Sentence.of(12, "NONE: no such ones.");
        for (int l : NO_LINK) {
            Shown.refused("queue(" + l + ", 0)", Rich::fabric, y -> y.queue(l, 0), -1);
        }
        for (int f : NO_FLOW) {
            Shown.refused("queue(0, " + f + ")", Rich::fabric, y -> y.queue(0, f), -1);
        }
        Due.is("neither", x.queue(3, 3), -1);
        Due.is("of a new one", new LosslessFabric().queue(0, 0), -1);
        Due.is("a LINK without FLOWS", Due.fabric("link a 1 0 9 0 9;").queue(0, 0), -1);
    }

    private static void flow() {
        Sentence.of(13, "Of a FLOW, what 0 RATE, 1 TARGET, 2 STAGE 0, 3 STAGE 1, 4 SENT, 5 DELIVERED, 6 NOTICES, 7 whether it is ON (1, 0), "
            + "8 CREDIT, 9 how many LINKS, 10 count of cells, 11 of TICKS;");
        LosslessFabric x = Due.fabric("sample 8 1 0;stage 3 4 10;link a 8 0 99 0 99;link b 5 4 99 0 99;flow f 133 a b;flow g 9 b;off g;");
        int[] first = {133, 133, 0, 0, 0, 0, 0, 1, 0, 2, 0, 0};
        int[] off = {9, 9, 0, 0, 0, 0, 0, 0, 0, 1, 0, 0};
        for (int what = 0; what <= 11; what++) {
            Due.is("flow(0, " + what + ")", x.flow(0, what), first[what]);
            Due.is("flow(1, " + what + ")", x.flow(1, what), off[what]);
        }
        x.tick(1);
        // 133 less 65 is 68, half way to 133 twice: 100, 116
        int[] second = {116, 133, 2, 0, 8, 0, 1, 1, 5, 2, 2, 1};
        for (int what = 0; what <= 11; what++) {
            Due.is("TICK 1, flow(0, " + what + ")", x.flow(0, what), second[what]);
        }
        x.turn(0);
        x.tick(1);
        Due.is("DELIVERED", x.flow(0, 5), 5);
        Due.is("OFF", x.flow(0, 7), 0);
        Sentence.of(13, "NONE: no such ones.");
        for (int f : NO_FLOW) {
            Shown.refused("flow(" + f + ", 0)", Rich::fabric, y -> y.flow(f, 0), -1);
            Due.is("flow(" + f + ", 12)", Rich.fabric().flow(f, 12), -1);
        }
        for (int what : new int[] {-1, 12, Integer.MIN_VALUE, Integer.MAX_VALUE}) {
            Shown.refused("flow(2, " + what + ")", Rich::fabric, y -> y.flow(2, what), -1);
        }
        Due.is("of a new one", new LosslessFabric().flow(0, 0), -1);
    }

    private static void path() {
        Sentence.of(14, "The i-th LINK (0 on) of a FLOW;");
        LosslessFabric x = Due.fabric("link a 1 0 9 0 9;link b 1 0 9 0 9;link c 1 0 9 0 9;link d 1 0 9 0 9;link e 1 0 9 0 9;"
            + "flow f 1 e c a d b;flow g 1 d;");
        int[] path = {4, 2, 0, 3, 1};
        for (int i = 0; i < 5; i++) {
            Due.is("path(0, " + i + ")", x.path(0, i), path[i]);
        }
        Due.is("path(1, 0)", x.path(1, 0), 3);
        Sentence.of(14, "NONE: no such ones.");
        Due.is("behind five", x.path(0, 5), -1);
        Due.is("behind one", x.path(1, 1), -1);
        for (int i : new int[] {-1, 2, 5, Integer.MIN_VALUE, Integer.MAX_VALUE}) {
            Shown.refused("path(0, " + i + ")", Rich::fabric, y -> y.path(0, i), -1);
        }
        for (int f : NO_FLOW) {
            Shown.refused("path(" + f + ", 0)", Rich::fabric, y -> y.path(f, 0), -1);
        }
        Due.is("of a new one", new LosslessFabric().path(0, 0), -1);
        // a shorter path in place of a longer one
        Due.text(x, "link a 1 0 9 0 9;flow f 1 a;");
        Due.is("the links of the text ahead are gone", x.path(0, 1), -1);
    }

    private static void feedback() {
        Sentence.of(15, "FEEDBACK of a LINK, were it sampled now;");
        LosslessFabric x = Fill.held("sample 999 500 4;stage 999 99 1;");
        Due.is("the least there is", x.feedback(0), -500);
        Fill.come(x, 100);
        Due.is("0", x.feedback(0), 0);
        Fill.come(x, 1);
        Due.is("5", x.feedback(0), 5);
        Due.is("it was not sampled", x.link(0, 10), 0);
        Sentence.of(15, "Integer.MIN_VALUE: no such LINK.");
        for (int l : NO_LINK) {
            Shown.refused("feedback(" + l + ")", Rich::fabric, y -> y.feedback(l), Integer.MIN_VALUE);
        }
        Due.is("of a new one", new LosslessFabric().feedback(0), Integer.MIN_VALUE);
    }

    private static void notice() {
        Sentence.of(16, "The NOTICE it would be (0: none);");
        LosslessFabric x = Fill.held("sample 999 64 0;stage 999 99 1;", 63);
        int[] due = {0, 0, 1, 2, 3};
        for (int i = 0; i < due.length; i++) {
            Due.is("QUEUE " + (63 + i), x.notice(0), due[i]);
            Fill.come(x, 1);
        }
        Due.is("there is none", x.link(0, 11), 0);
        Sentence.of(16, "NONE: no such LINK.");
        for (int l : NO_LINK) {
            Shown.refused("notice(" + l + ")", Rich::fabric, y -> y.notice(l), -1);
        }
        Due.is("of a new one", new LosslessFabric().notice(0), -1);
    }
}
