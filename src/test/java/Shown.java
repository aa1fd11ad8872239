/** All that calls show of a fabric without changing it, and what a refused call must leave. */
final class Shown {
    interface Make {
        LosslessFabric make();
    }

    interface Call {
        long on(LosslessFabric x);
    }

    private Shown() {
    }

    /** Every call that only looks; some 200 calls for three links and three flows. */
    static String all(LosslessFabric x) {
        StringBuilder s = new StringBuilder(fabric(x));
        s.append("fault ").append(x.fault(0)).append(' ').append(x.fault(1));
        return s.append(" undone ").append(x.count(9)).append(" tape ").append(x.count(10)).toString();
    }

    /** The same without the TAPE, the FAULT and what can be undone. */
    static String fabric(LosslessFabric x) {
        return links(x) + flows(x) + rest(x);
    }

    static String links(LosslessFabric x) {
        StringBuilder s = new StringBuilder();
        int links = x.count(0);
        for (int l = 0; l < links; l++) {
            link(x, l, s);
        }
        return s.toString();
    }

    static String flows(LosslessFabric x) {
        StringBuilder s = new StringBuilder();
        int flows = x.count(1);
        for (int f = 0; f < flows; f++) {
            flow(x, f, s);
        }
        return s.toString();
    }

    private static String rest(LosslessFabric x) {
        StringBuilder s = new StringBuilder();
        s.append("fabric ").append(x.safe()).append(' ').append(x.full()).append(' ').append(x.stalls()).append(' ')
            .append(x.quiet()).append(' ').append(x.worst(7)).append(' ').append(x.inCycles(0)).append(' ').append(x.inCycles(1));
        for (int i = 0; i <= 3; i++) {
            s.append(' ').append(x.cycle(i)).append(' ').append(x.witness(i)).append(' ').append(x.chance(-1, 25, 40, i));
        }
        s.append(" counts ");
        for (int what = 0; what <= 8; what++) {
            s.append(x.count(what)).append(' ');
        }
        for (String name : new String[] {"a", "b", "c", "f", "g", "h", "q"}) {
            s.append(x.named(0, Due.letters(name))).append(x.named(1, Due.letters(name))).append(' ');
        }
        return s.toString();
    }

    private static void link(LosslessFabric x, int l, StringBuilder s) {
        s.append("link ").append(l).append(": ");
        for (int what = 0; what <= 13; what++) {
            s.append(x.link(l, what)).append(' ');
        }
        int flows = x.count(1);
        for (int f = 0; f < flows; f++) {
            s.append(x.queue(l, f)).append(' ');
        }
        s.append(x.feedback(l)).append(' ').append(x.notice(l)).append(' ').append(x.headroom(l)).append(' ').append(x.waits(l))
            .append(' ').append(x.leastSize(l, 30)).append(' ');
        for (int what = 0; what <= 2; what++) {
            s.append(x.ahead(l, 30, what)).append(' ');
        }
    }

    private static void flow(LosslessFabric x, int f, StringBuilder s) {
        s.append("flow ").append(f).append(": ");
        for (int what = 0; what <= 11; what++) {
            s.append(x.flow(f, what)).append(' ');
        }
        int hops = x.flow(f, 9);
        for (int i = 0; i < hops; i++) {
            s.append(x.path(f, i)).append(' ');
        }
        s.append(x.fair(f, false)).append('/').append(x.fair(f, true)).append(' ').append(x.onWay(f)).append(' ');
        for (int what = 0; what <= 2; what++) {
            s.append(x.flows(f, 30, what)).append(' ');
        }
    }

    /** Two ways to make a fabric: all that is shown is the same. New objects for each look. */
    static void same(String name, Make one, Make other) {
        Due.same(name + ": links", links(one.make()), links(other.make()));
        Due.same(name + ": flows", flows(one.make()), flows(other.make()));
        Due.same(name + ": the rest", rest(one.make()), rest(other.make()));
    }

    /**
     * The call answers so, and all is as if it had not been: what is shown, what undoing brings
     * back, what the image brings back and what the tape has. Each on objects of its own.
     */
    static void refused(String name, Make make, Call call, long answer) {
        LosslessFabric x = make.make();
        Due.is(name, call.on(x), answer);
        Due.same(name + ": what is shown", all(x), all(make.make()));
        sameUndone(name, make, call);
        sameImage(name, make, call);
        sameTape(name, make, call);
    }

    private static void sameUndone(String name, Make make, Call call) {
        LosslessFabric x = make.make();
        LosslessFabric y = make.make();
        call.on(x);
        for (int i = 0; i <= 20; i++) {
            Due.is(name + ": undo()", x.undo(), y.undo());
            Due.same(name + ": what was undone", brief(x), brief(y));
        }
        Due.same(name + ": all undone", all(x), all(y));
    }

    private static String brief(LosslessFabric x) {
        StringBuilder s = new StringBuilder();
        for (int what = 2; what <= 7; what++) {
            s.append(x.count(what)).append(' ');
        }
        return s.append(x.flow(0, 0)).append(' ').append(x.flow(1, 0)).toString();
    }

    private static void sameImage(String name, Make make, Call call) {
        LosslessFabric x = make.make();
        LosslessFabric y = make.make();
        call.on(x);
        Due.is(name + ": back()", x.back(), y.back());
        Due.same(name + ": the image", all(x), all(y));
    }

    private static void sameTape(String name, Make make, Call call) {
        LosslessFabric x = make.make();
        LosslessFabric y = make.make();
        call.on(x);
        Due.is(name + ": text()", x.text(x.count(10)), y.text(y.count(10)));
        Due.same(name + ": the tape", all(x), all(y));
    }
}
