/** Promises 33 to 36: undo, keep, back, count. */
public final class PastTest {
    private static final String TEXT = "sample 4 2 1;stage 3 4 10;link a 4 1 3 1 9;link b 1 0 3 1 9;link c 2 2 5 1 4;"
        + "flow f 64 a b;flow g 24 b c a;flow h 40 c b;off h;";

    public static void main(String[] args) {
        undoEach();
        twentyAtMost();
        undoRefused();
        image();
        imageStays();
        imageReplaced();
        counts();
        Due.end();
    }

    private static String told(LosslessFabric x) {
        StringBuilder s = new StringBuilder();
        for (int l = 0; l < x.count(0); l++) {
            for (int what = 0; what <= 13; what++) {
                s.append(x.link(l, what)).append(' ');
            }
            for (int f = 0; f < x.count(1); f++) {
                s.append(x.queue(l, f)).append(' ');
            }
            s.append(x.feedback(l)).append(' ');
        }
        for (int f = 0; f < x.count(1); f++) {
            for (int what = 0; what <= 11; what++) {
                s.append(x.flow(f, what)).append(' ');
            }
            s.append(x.onWay(f)).append(' ').append(x.flows(f, 30, 1)).append(' ');
        }
        for (int what = 0; what <= 8; what++) {
            s.append(x.count(what)).append(' ');
        }
        return s.toString();
    }

    /** The calls that can be undone, one after the other. */
    private static void change(LosslessFabric x, int i) {
        switch (i % 6) {
            case 0 -> x.tick(1 + i);
            case 1 -> x.rate(i % 3, 10 * i);
            case 2 -> x.turn(i % 3);
            case 3 -> x.bounds(i % 3, i + 2, i);
            case 4 -> x.size(i % 3, i + 1);
            default -> x.rate(0, x.flow(0, 0));
        }
    }

    private static void undoEach() {
        LosslessFabric x = Due.fabric(TEXT);
        x.tick(5);
        String[] was = new String[19];
        for (int i = 0; i < 19; i++) {
            was[i] = told(x);
            change(x, i);
            Due.is("what can be undone", x.count(9), i + 2);
        }
        for (int i = 18; i >= 0; i--) {
            Due.is("undo()", x.undo(), i + 1);
            Due.is("as it was ahead of change " + i, told(x).equals(was[i]), true);
        }
        Due.is("undo()", x.undo(), 0);
        Due.is("tick", x.count(2), 0);
        Due.is("none", x.undo(), -1);
        Due.is("none", x.count(9), 0);
    }

    private static void twentyAtMost() {
        LosslessFabric x = Due.fabric(TEXT);
        for (int i = 1; i <= 50; i++) {
            x.tick(1);
            Due.is("what can be undone", x.count(9), Math.min(20, i));
        }
        for (int i = 19; i >= 0; i--) {
            Due.is("undo()", x.undo(), i);
            Due.is("tick", x.count(2), 30 + i);
        }
        Due.is("no more", x.undo(), -1);
        Due.is("tick", x.count(2), 30);
        x.tick(7);
        x.turn(0);
        Due.is("undo()", x.undo(), 1);
        Due.is("undo()", x.undo(), 0);
        Due.is("tick", x.count(2), 30);
    }

    private static void undoRefused() {
        LosslessFabric x = Due.fabric(TEXT);
        x.tick(3);
        String was = told(x);
        x.tick(0);
        x.tick(51);
        x.rate(0, 0);
        x.rate(9, 5);
        x.turn(3);
        x.bounds(0, 3, 3);
        x.size(0, 0);
        x.size(3, 5);
        x.text(-1);
        x.text(5);
        x.back();
        Due.thrownByLink(x, 9, 9);
        Due.is("a call that is refused changes nothing", told(x).equals(was), true);
        Due.is("nothing more to undo", x.count(9), 1);
        x.feed(0, 0, 0, 0, 0);
        x.keep();
        Due.is("feed and keep are not undone", x.count(9), 1);
        Due.is("undo()", x.undo(), 0);
        Due.is("the tape stays", x.count(10), 20);
        Due.is("the image stays", x.back(), 3);
    }

    private static void image() {
        LosslessFabric x = Due.fabric(TEXT);
        Due.is("there is none", x.back(), -1);
        x.tick(9);
        Due.is("keep()", x.keep(), 9);
        String was = told(x);
        for (int i = 0; i < 12; i++) {
            change(x, i);
        }
        Due.is("it is another one", told(x).equals(was), false);
        Due.is("back()", x.back(), 9);
        Due.is("all is as it was", told(x).equals(was), true);
        Due.is("nothing to undo", x.count(9), 0);
        Due.is("nothing to undo", x.undo(), -1);
        Due.is("as it goes from there", x.tick(3), 12);
    }

    private static void imageStays() {
        LosslessFabric x = Due.fabric(TEXT);
        x.tick(4);
        x.keep();
        String was = told(x);
        for (int i = 0; i < 3; i++) {
            x.tick(11);
            x.size(0, 2);
            Due.is("back()", x.back(), 4);
            Due.is("all is as it was", told(x).equals(was), true);
        }
        x.feed(0x23232323, 0, 0, 0, 0);
        Due.is("text with a fault", x.text(1), -1);
        x.feed(0, 0, 0, 0, 0);
        x.tick(1);
        Due.is("back()", x.back(), 4);
        Due.is("the tape is not kept", x.count(10), 20);
        Due.is("the fault is not kept", x.fault(0), 1);
        Due.is("the fault is not kept", x.fault(1), 0);
        x.tick(1);
        x.undo();
        Due.is("undo leaves the image", x.back(), 4);
        Due.is("text(0)", x.text(0), 0);
        Due.is("a text leaves none", x.back(), -1);
    }

    private static void imageReplaced() {
        LosslessFabric x = Due.fabric(TEXT);
        Due.is("keep()", x.keep(), 0);
        x.tick(4);
        Due.is("keep()", x.keep(), 4);
        x.tick(4);
        Due.is("the latter", x.back(), 4);
        LosslessFabric y = new LosslessFabric();
        Due.is("of nothing", y.keep(), 0);
        y.tick(50);
        Due.is("of nothing", y.back(), 0);
        Due.is("of nothing", y.count(2), 0);
    }

    private static void counts() {
        LosslessFabric x = Due.fabric(TEXT);
        Due.is("LINKS", x.count(0), 3);
        Due.is("FLOWS", x.count(1), 3);
        x.tick(30);
        x.turn(1);
        x.size(0, 1);
        x.bounds(1, 1, 0);
        x.tick(5);
        int[] sums = new int[9];
        sums[2] = 35;
        for (int f = 0; f < 3; f++) {
            sums[3] += x.flow(f, 4);
            sums[4] += x.flow(f, 5);
            sums[6] += x.flow(f, 6);
            sums[7] += x.flow(f, 7);
        }
        int noticed = 0;
        for (int l = 0; l < 3; l++) {
            sums[5] += x.link(l, 8);
            sums[8] += x.link(l, 6);
            noticed += x.link(l, 11);
        }
        for (int what = 2; what <= 8; what++) {
            Due.is("count(" + what + ")", x.count(what), sums[what]);
        }
        Due.is("notices of links and of flows", noticed, sums[6]);
        Due.is("some were sent", x.count(3) > 0 && x.count(4) > 0 && x.count(6) > 0, true);
        Due.is("one is ON", x.count(7), 1);
        Due.is("what can be undone", x.count(9), 5);
        x.feed(1, 2, 3, 4, 5);
        Due.is("bytes", x.count(10), 20);
        Due.is("count(11)", x.count(11), -1);
        Due.is("count(-1)", x.count(-1), -1);
        Due.is("count(least)", x.count(Integer.MIN_VALUE), -1);
    }
}
