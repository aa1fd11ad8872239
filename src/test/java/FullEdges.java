/**
 * A full fabric, ten links and eight flows, made of five parts that have nothing to do with one
 * another: every link and every flow must be as in a fabric that has its part alone.
 */
final class FullEdges {
    private static final String SETTINGS = "sample 6 3 1;stage 5 3 10;";
    /** Which part each link and each flow is of; in a part they keep their order. */
    private static final int[] LINK_PARTS = {4, 0, 1, 2, 3, 0, 1, 2, 3, 4};
    private static final int[] FLOW_PARTS = {2, 0, 3, 1, 4, 4, 0, 2};
    private static final String[] LINKS = {"link ea 5 2 7 4 6;", "link aa 9 0 5 2 7;", "link bb 5 1 3 0 9;", "link ca 64 2 40 10 60;",
        "link da 3 3 6 5 4;", "link ab 2 1 4 1 9;", "link ba 1 4 3 0 99;", "link cb 7 3 5 1 9;", "link db 1 0 1 0 1;", "link eb 11 1 3 1 7;"};
    private static final String[] FLOWS = {"flow p 999 ca cb;", "flow q 100 aa ab;", "flow r 63 da db;", "flow s 70 bb ba;",
        "flow t 179 ea eb;", "flow u 213 eb ea;", "flow v 60 ab aa;", "flow w 33 cb ca;"};

    private FullEdges() {
    }

    static void all() {
        Sentence.of(Sentence.TERMS, "numbered from 0 on as they come. flow, at most 8: name,");
        for (int ticks : new int[] {0, 1, 2, 3, 5, 8, 13, 21, 34}) {
            for (int i = 0; i < 10; i++) {
                link(ticks, i);
            }
            for (int i = 0; i < 8; i++) {
                flow(ticks, i);
            }
            counts(ticks);
        }
        firstAndLast();
        bitsOfAll();
        again();
    }

    /** What stands at the ends of rows is not 0: neighbours would show it. */
    private static void firstAndLast() {
        LosslessFabric x = full(34);
        for (int l : new int[] {0, 9}) {
            for (int what = 8; what <= 11; what++) {
                Due.is("link(" + l + ", " + what + ") is more than 0", x.link(l, what) > 0, true);
            }
        }
        for (int f : new int[] {0, 7}) {
            for (int what : new int[] {0, 1, 4, 5, 6, 7}) {
                Due.is("flow(" + f + ", " + what + ") is more than 0", x.flow(f, what) > 0, true);
            }
        }
    }

    private static LosslessFabric full(int ticks) {
        LosslessFabric x = Due.fabric(SETTINGS + String.join("", LINKS) + String.join("", FLOWS));
        if (ticks > 0) {
            x.tick(ticks);
        }
        return x;
    }

    private static LosslessFabric part(int part, int ticks) {
        StringBuilder s = new StringBuilder(SETTINGS);
        for (int l = 0; l < 10; l++) {
            s.append(LINK_PARTS[l] == part ? LINKS[l] : "");
        }
        for (int f = 0; f < 8; f++) {
            s.append(FLOW_PARTS[f] == part ? FLOWS[f] : "");
        }
        LosslessFabric x = Due.fabric(s.toString());
        if (ticks > 0) {
            x.tick(ticks);
        }
        return x;
    }

    /** How many of the same part stand ahead: the number it has when its part is alone. */
    private static int alone(int[] parts, int i) {
        int ahead = 0;
        for (int k = 0; k < i; k++) {
            ahead += parts[k] == parts[i] ? 1 : 0;
        }
        return ahead;
    }

    /** A part's bits as those of the full fabric. */
    private static int bits(int part, int bits) {
        int all = 0;
        for (int l = 0; l < 10; l++) {
            if (LINK_PARTS[l] == part && (bits >> alone(LINK_PARTS, l) & 1) == 1) {
                all |= 1 << l;
            }
        }
        return all;
    }

    private static void link(int ticks, int l) {
        LosslessFabric x = full(ticks);
        LosslessFabric y = part(LINK_PARTS[l], ticks);
        int k = alone(LINK_PARTS, l);
        String name = "TICK " + ticks + ", LINK " + l + ": ";
        for (int what = 0; what <= 13; what++) {
            Due.is(name + "link " + what, x.link(l, what), y.link(k, what));
        }
        for (int f = 0; f < 8; f++) {
            boolean together = FLOW_PARTS[f] == LINK_PARTS[l];
            Due.is(name + "queue " + f, x.queue(l, f), together ? y.queue(k, alone(FLOW_PARTS, f)) : 0);
        }
        Due.is(name + "feedback", x.feedback(l), y.feedback(k));
        Due.is(name + "notice", x.notice(l), y.notice(k));
        Due.is(name + "headroom", x.headroom(l), y.headroom(k));
        Due.is(name + "waits", x.waits(l), bits(LINK_PARTS[l], y.waits(k)));
        for (int n = 0; n <= 40; n += 8) {
            for (int what = 0; what <= 2; what++) {
                Due.is(name + "ahead " + n + " " + what, x.ahead(l, n, what), y.ahead(k, n, what));
            }
            Due.is(name + "leastSize " + n, x.leastSize(l, n + 1), y.leastSize(k, n + 1));
        }
    }

    private static void flow(int ticks, int f) {
        LosslessFabric x = full(ticks);
        LosslessFabric y = part(FLOW_PARTS[f], ticks);
        int k = alone(FLOW_PARTS, f);
        String name = "TICK " + ticks + ", FLOW " + f + ": ";
        for (int what = 0; what <= 11; what++) {
            Due.is(name + "flow " + what, x.flow(f, what), y.flow(k, what));
        }
        for (int i = 0; i < x.flow(f, 9); i++) {
            Due.is(name + "path " + i, 1 << x.path(f, i), bits(FLOW_PARTS[f], 1 << y.path(k, i)));
        }
        Due.is(name + "fair", x.fair(f, false), y.fair(k, false));
        Due.is(name + "fair", x.fair(f, true), y.fair(k, true));
        Due.is(name + "onWay", x.onWay(f), y.onWay(k));
        for (int n = 0; n <= 40; n += 8) {
            for (int what = 0; what <= 2; what++) {
                Due.is(name + "flows " + n + " " + what, x.flows(f, n, what), y.flows(k, n, what));
            }
        }
        // one flow turned, one rate set: those of its part alone are others
        Due.is(name + "rate", x.rate(f, 77), y.rate(k, 77));
        Due.is(name + "turn", x.turn(f), y.turn(k));
        x.tick(3);
        y.tick(3);
        for (int what = 0; what <= 11; what++) {
            Due.is(name + "OFF, flow " + what, x.flow(f, what), y.flow(k, what));
        }
    }

    private static void counts(int ticks) {
        LosslessFabric x = full(ticks);
        int[] sums = new int[9];
        int safe = 0;
        int filled = 0;
        int inCycles = 0;
        int mayBe = 0;
        for (int part = 0; part < 5; part++) {
            LosslessFabric y = part(part, ticks);
            for (int what = 0; what <= 8; what++) {
                sums[what] += y.count(what);
            }
            safe |= bits(part, y.safe());
            filled |= bits(part, y.full());
            inCycles |= bits(part, y.inCycles(0));
            mayBe |= bits(part, y.inCycles(1));
        }
        sums[2] = ticks;
        for (int what = 0; what <= 8; what++) {
            Due.is("TICK " + ticks + ", count(" + what + ")", x.count(what), sums[what]);
        }
        Due.is("TICK " + ticks + ", safe()", x.safe(), safe);
        Due.is("TICK " + ticks + ", full()", x.full(), filled);
        Due.is("TICK " + ticks + ", inCycles(0)", x.inCycles(0), inCycles);
        Due.is("TICK " + ticks + ", inCycles(1)", x.inCycles(1), mayBe);
    }

    /** Each link and each flow changed on its own: the others stay. */
    private static void bitsOfAll() {
        Sentence.of(10, "SIZE of a LINK 1 .. 1999");
        LosslessFabric x = full(0);
        for (int l = 0; l < 10; l++) {
            x.size(l, 1000 + l);
            x.bounds(l, 900 + l, 800 + l);
        }
        for (int l = 0; l < 10; l++) {
            Due.is("SIZE of " + l, x.link(l, 4), 1000 + l);
            Due.is("XOFF of " + l, x.link(l, 2), 900 + l);
            Due.is("XON of " + l, x.link(l, 3), 800 + l);
        }
        Sentence.of(7, "RATE and TARGET of a FLOW become r");
        for (int f = 0; f < 8; f++) {
            x.rate(f, 500 + f);
            x.turn(f);
            Due.is("ON", x.count(7), 7 - f);
        }
        for (int f = 0; f < 8; f++) {
            Due.is("RATE of " + f, x.flow(f, 0), 500 + f);
            Due.is("TARGET of " + f, x.flow(f, 1), 500 + f);
            Due.is("OFF " + f, x.flow(f, 7), 0);
        }
    }

    /** Told again, undone and brought back, all of it is as it was. */
    private static void again() {
        Sentence.of(35, "All is as in the IMAGE");
        Shown.same("undone", () -> full(20), () -> {
            LosslessFabric x = full(20);
            x.tick(9);
            x.undo();
            return x;
        });
        Shown.same("brought back", () -> full(20), () -> {
            LosslessFabric x = full(20);
            x.keep();
            x.tick(9);
            x.back();
            return x;
        });
        Shown.same("told again", () -> full(0), () -> {
            LosslessFabric x = full(20);
            x.ahead(0, 30, 0);
            Due.text(x, SETTINGS + String.join("", LINKS) + String.join("", FLOWS));
            return x;
        });
        Sentence.of(28, "If all FLOWS were OFF from now on,");
        for (int ticks : new int[] {0, 1, 2, 20}) {
            int n = 0;
            while (n <= 300 && !isQuiet(ticks, n)) {
                n++;
            }
            Due.is("TICK " + ticks + ", quiet()", full(ticks).quiet(), n > 300 ? -2 : n);
        }
    }

    /** Whether all queues are empty so many ticks after all flows were turned off. */
    private static boolean isQuiet(int ticks, int n) {
        LosslessFabric x = full(ticks);
        for (int f = 0; f < 8; f++) {
            x.turn(f);
        }
        int cells = 0;
        for (int l = 0; l < 10; l++) {
            cells += x.ahead(l, n, 0);
        }
        return cells == 0;
    }
}
