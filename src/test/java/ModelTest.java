import java.util.Random;

/** Runs of calls by chance, on the class and on the model: every answer must be the same. */
public final class ModelTest {
    private final Random chance;
    private final int run;
    private LosslessFabric x = new LosslessFabric();
    private Model m = new Model();
    private int calls = 0;

    private ModelTest(int run) {
        this.run = run;
        chance = new Random(run * 7919L + 17);
    }

    public static void main(String[] args) {
        int runs = args.length > 0 ? Integer.parseInt(args[0]) : 400;
        int from = args.length > 1 ? Integer.parseInt(args[1]) : 0;
        for (int run = from; run < from + runs; run++) {
            new ModelTest(run).go();
        }
        for (int run = 0; run < 4000; run++) {
            new ModelTest(run).faulty();
        }
        Due.end();
    }

    private int below(int n) {
        return chance.nextInt(n);
    }

    private boolean rarely() {
        return below(25) == 0;
    }

    private void due(String call, long got, long want) {
        calls++;
        Due.is("run " + run + ", call " + calls + ": " + call, got, want);
    }

    private String name(int i) {
        return "" + (char) ('a' + i);
    }

    /** Some fabrics are tight and looped, some wide: pauses, losses, notices and stalls all come. */
    private String text() {
        int links = rarely() ? 0 : 1 + below(10);
        int flows = links == 0 || rarely() ? 0 : 1 + below(8);
        boolean wide = below(4) == 0;
        StringBuilder s = new StringBuilder();
        if (below(3) > 0) {
            s.append("sample ").append(1 + below(wide ? 40 : 8)).append(' ').append(1 + below(wide ? 60 : 8)).append(' ')
                .append(below(5)).append(';');
        }
        if (below(3) > 0) {
            s.append("stage ").append(1 + below(wide ? 60 : 5)).append(' ').append(1 + below(wide ? 20 : 4)).append(' ')
                .append(1 + below(99)).append(';');
        }
        for (int l = 0; l < links; l++) {
            int xoff = 1 + below(wide ? 60 : 8);
            s.append("link ").append(name(l)).append(' ').append(1 + below(wide ? 64 : 5)).append(' ').append(below(5))
                .append(' ').append(xoff).append(' ').append(below(xoff)).append(' ')
                .append(1 + below(below(2) == 0 ? 12 : 200)).append(";");
        }
        boolean ring = below(2) == 0;
        for (int f = 0; f < flows; f++) {
            s.append("flow ").append(name(f)).append(' ').append(1 + below(below(3) == 0 ? 1024 : 100));
            int hops = Math.min(links, 1 + below(5));
            int at = below(links);
            int used = 0;
            for (int h = 0; h < hops; h++) {
                while ((used >> at & 1) == 1) {
                    at = below(links);
                }
                used |= 1 << at;
                s.append(' ').append(name(at));
                at = ring ? (at + 1) % links : below(links);
            }
            s.append(';');
            if (below(8) == 0) {
                s.append("off ").append(name(f)).append(';');
            }
        }
        if (below(2) == 0) {
            s.append("seed ").append(below(100000)).append(';');
        }
        return s.toString();
    }

    private void tell(String text) {
        byte[] bytes = text.getBytes(java.nio.charset.StandardCharsets.ISO_8859_1);
        for (int i = 0; i < bytes.length; i += 20) {
            int[] v = new int[5];
            for (int k = 0; k < 20; k++) {
                v[k / 4] = v[k / 4] << 8 | (i + k < bytes.length ? bytes[i + k] & 255 : 32);
            }
            due("feed", x.feed(v[0], v[1], v[2], v[3], v[4]), m.feed(v));
        }
        due("text \"" + text + "\"", x.text(text.length()), m.text(text.length()));
        due("fault(0)", x.fault(0), m.fault(0));
        due("fault(1)", x.fault(1), m.fault(1));
    }

    private static final String[] SIGNS = {"link", "flow", "off", "seed", "sample", "stage", ";", " ", "0", "1", "65", "1025",
        "2000", "a", "b", "samples", "abcdefg", "abcdef", "\n", "#", "A", "\u00e9", "00000000000000000009", "99999999999999999999"};
    private static final String[] LINES = {"link zz 1 0 2 1 3;", "link a 1 0 2 1 3;", "link b 1 0 2 2 3;", "flow zz 5 a;", "flow a 5 a;",
        "flow zy 5 a b a;", "flow zx 5 a b c d e f;", "flow zw 5 k;", "flow zv 1024 c b a;", "off a;", "off b;", "off k;", "off zz;",
        "seed 7;", "seed 99999;", "sample 1 1 1;", "stage 1 1 1;", "sample 999 500 4;", "stage 999 99 99;"};

    /** A text with a few signs, tokens or whole lines changed. */
    private void faulty() {
        String text = text();
        int changes = below(4);
        boolean byLines = below(2) == 0;
        for (int i = 0; i < changes; i++) {
            int at = below(text.length() + 1);
            if (byLines) {
                at = text.indexOf(';', at) + 1;
                text = text.substring(0, at) + LINES[below(LINES.length)] + text.substring(at);
            } else {
                int to = Math.min(text.length(), at + below(4));
                text = text.substring(0, at) + (below(3) == 0 ? "" : SIGNS[below(SIGNS.length)]) + text.substring(to);
            }
        }
        if (text.length() > 700) {
            text = text.substring(0, 700);
        }
        tell(text);
        all();
    }

    private void go() {
        tell(text());
        all();
        int calls = 60;
        for (int i = 0; i < calls; i++) {
            change();
            if (below(6) == 0) {
                all();
            }
            look();
        }
        all();
    }

    private int someLink() {
        return rarely() ? below(14) - 2 : below(Math.max(1, m.now.links.size()));
    }

    private int someFlow() {
        return rarely() ? below(12) - 2 : below(Math.max(1, m.now.flows.size()));
    }

    private void change() {
        int kind = below(20);
        if (kind < 10) {
            int n = rarely() ? below(60) - 4 : 1 + below(below(3) == 0 ? 50 : 4);
            due("tick(" + n + ")", x.tick(n), m.tick(n));
        } else if (kind == 10) {
            int f = someFlow();
            int r = rarely() ? below(3) + 1023 : 1 + below(200);
            due("rate(" + f + ", " + r + ")", x.rate(f, r), m.rate(f, r));
        } else if (kind < 13) {
            int f = someFlow();
            due("turn(" + f + ")", x.turn(f), m.turn(f));
        } else if (kind == 13) {
            int l = someLink();
            int xoff = rarely() ? 998 + below(3) : below(12);
            int xon = below(xoff + 1);
            due("bounds(" + l + ", " + xoff + ", " + xon + ")", x.bounds(l, xoff, xon) ? 1 : 0, m.bounds(l, xoff, xon) ? 1 : 0);
        } else if (kind == 14) {
            int l = someLink();
            int n = rarely() ? 1998 + below(4) : below(20);
            due("size(" + l + ", " + n + ")", x.size(l, n), m.size(l, n));
        } else if (kind < 17) {
            due("undo()", x.undo(), m.undo());
        } else if (kind == 17) {
            due("keep()", x.keep(), m.keep());
        } else if (kind == 18) {
            due("back()", x.back(), m.back());
        } else if (rarely()) {
            tell(text());
        }
    }

    /** One of the dear calls. */
    private void look() {
        int l = someLink();
        int f = someFlow();
        switch (below(14)) {
            case 0 -> {
                int n = rarely() ? 299 + below(3) : below(40);
                int what = rarely() ? below(6) - 1 : below(3);
                due("ahead(" + l + ", " + n + ", " + what + ")", x.ahead(l, n, what), m.ahead(l, n, what));
            }
            case 1 -> {
                int n = rarely() ? 299 + below(3) : below(40);
                int what = rarely() ? below(6) - 1 : below(3);
                due("flows(" + f + ", " + n + ", " + what + ")", x.flows(f, n, what), m.flows(f, n, what));
            }
            case 2 -> due("stalls()", x.stalls(), m.stalls());
            case 3 -> due("quiet()", x.quiet(), m.quiet());
            case 4 -> {
                int n = rarely() ? below(45) - 1 : 1 + below(20);
                due("worst(" + n + ")", x.worst(n), m.worst(n));
            }
            case 5 -> {
                int n = rarely() ? below(104) - 1 : 1 + below(20);
                due("leastSize(" + l + ", " + n + ")", x.leastSize(l, n), m.leastSize(l, n));
            }
            case 6 -> {
                int seed = below(3) == 0 ? -1 : rarely() ? Integer.MAX_VALUE : chance.nextInt() >>> below(30) & Integer.MAX_VALUE;
                int n = rarely() ? 199 + below(3) : 1 + below(40);
                int p = rarely() ? below(4) * 101 - 101 : below(101);
                int what = rarely() ? below(6) - 1 : below(4);
                due("chance(" + seed + ", " + n + ", " + p + ", " + what + ")", x.chance(seed, n, p, what), m.chance(seed, n, p, what));
            }
            case 7 -> {
                int i = below(6) - 1;
                due("cycle(" + i + ")", x.cycle(i), m.cycle(i));
                due("witness(" + i + ")", x.witness(i), m.witness(i));
            }
            case 8 -> due("waits(" + l + ")", x.waits(l), m.waits(l));
            case 9 -> due("full()", x.full(), m.full());
            case 10 -> due("inCycles(0)", x.inCycles(0), m.inCycles(0));
            default -> {
                int what = below(12);
                due("flow(" + f + ", " + what + ")", x.flow(f, what), m.flow(f, what));
            }
        }
    }

    private int answered(int l, int what) {
        int thrown = Due.thrownByLink(x, l, what);
        return thrown == 0 ? x.link(l, what) : -1000 - thrown;
    }

    /** All that is cheap to look at. */
    private void all() {
        for (int l = -1; l <= m.now.links.size(); l++) {
            for (int what = -1; what <= 14; what++) {
                due("link(" + l + ", " + what + ")", answered(l, what), m.link(l, what));
            }
            for (int f = -1; f <= m.now.flows.size(); f++) {
                due("queue(" + l + ", " + f + ")", x.queue(l, f), m.queue(l, f));
            }
            due("feedback(" + l + ")", x.feedback(l), m.feedback(l));
            due("notice(" + l + ")", x.notice(l), m.notice(l));
            due("headroom(" + l + ")", x.headroom(l), m.headroom(l));
            due("waits(" + l + ")", x.waits(l), m.waits(l));
        }
        for (int f = -1; f <= m.now.flows.size(); f++) {
            for (int what = -1; what <= 12; what++) {
                due("flow(" + f + ", " + what + ")", x.flow(f, what), m.flow(f, what));
            }
            for (int i = -1; i <= 5; i++) {
                due("path(" + f + ", " + i + ")", x.path(f, i), m.path(f, i));
            }
            due("fair(" + f + ", false)", x.fair(f, false), m.fair(f, false));
            due("fair(" + f + ", true)", x.fair(f, true), m.fair(f, true));
            due("onWay(" + f + ")", x.onWay(f), m.onWay(f));
        }
        for (int i = -1; i <= 10; i++) {
            due("cycle(" + i + ")", x.cycle(i), m.cycle(i));
            due("witness(" + i + ")", x.witness(i), m.witness(i));
            due("named(0)", x.named(0, i << 25), m.named(0, i << 25));
            due("named(1)", x.named(1, i << 25), m.named(1, i << 25));
        }
        for (int what = -1; what <= 11; what++) {
            due("count(" + what + ")", x.count(what), m.count(what));
        }
        for (int what = -1; what <= 2; what++) {
            due("inCycles(" + what + ")", x.inCycles(what), m.inCycles(what));
            due("fault(" + what + ")", x.fault(what), m.fault(what));
        }
        due("safe()", x.safe(), m.safe());
        due("full()", x.full(), m.full());
    }
}
