/** The edges of undoing and of images: terms, part 4, and promises 33 to 36. */
final class PastEdges {
    private static final int TERMS = Sentence.TERMS;
    private static final String ONE = "link a 1 0 9 0 9;flow f 16 a;";

    private PastEdges() {
    }

    static void all() {
        calls();
        whatCanBeUndone();
        alsoToWhatItIs();
        ticksTogether();
        twentyAtMost();
        imageKeeps();
        imageLeaves();
        noneGoesFirst();
        exceptionsGoFirst();
        refusedChangesNothing();
        undo();
        keep();
        back();
        count();
        countAll();
    }

    private static void calls() {
        Sentence.of(Sentence.WHAT_IT_IS, "An object is used for at most 512 calls after it has been made;");
        LosslessFabric x = new LosslessFabric();
        for (int i = 1; i <= 511; i++) {
            x.tick(1 + i % 3);
        }
        Due.is("the 512th call", x.tick(1), 511 + 170 * 3 + 1 + 1);
    }

    private interface Change {
        void on(LosslessFabric x);
    }

    private static void whatCanBeUndone() {
        Sentence.of(TERMS, "Each call that changes something");
        Change[] changes = {x -> x.tick(3), x -> x.rate(0, 7), x -> x.turn(1), x -> x.bounds(0, 7, 6), x -> x.size(2, 1999)};
        for (int i = 0; i < changes.length; i++) {
            LosslessFabric x = Rich.fabric();
            String was = Shown.all(x);
            changes[i].on(x);
            Due.is("change " + i + " can be undone", x.count(9), Rich.STEPS + 1);
            Due.is("it changes something", Shown.all(x).equals(was), false);
            Due.is("undo()", x.undo(), Rich.STEPS);
            Due.same("as it was ahead of change " + i, Shown.all(x), was);
        }
        LosslessFabric y = Rich.fabric();
        y.feed(0, 0, 0, 0, 0);
        y.keep();
        y.chance(0, 200, 50, 0);
        y.worst(40);
        Due.is("feed, keep and looks are no steps", y.count(9), Rich.STEPS);
    }

    private static void alsoToWhatItIs() {
        Sentence.of(TERMS, "(also to what it is already;");
        LosslessFabric x = Due.fabric(ONE);
        Change[] changes = {y -> y.rate(0, 16), y -> y.bounds(0, 9, 0), y -> y.size(0, 9)};
        String was = Shown.fabric(x);
        for (int i = 0; i < changes.length; i++) {
            changes[i].on(x);
            Due.is("what can be undone", x.count(9), i + 1);
            Due.same("nothing is another", Shown.fabric(x), was);
        }
        for (int i = 2; i >= 0; i--) {
            Due.is("undo()", x.undo(), i);
        }
        LosslessFabric y = new LosslessFabric();
        y.tick(1);
        Due.is("a TICK of nothing", y.count(9), 1);
    }

    private static void ticksTogether() {
        Sentence.of(TERMS, "TICKS of one call together) can be undone, the latest first");
        LosslessFabric x = Due.fabric(ONE);
        x.tick(50);
        x.tick(1);
        x.rate(0, 5);
        Due.is("undo()", x.undo(), 2);
        Due.is("RATE", x.flow(0, 0), 16);
        Due.is("the TICK", x.count(2), 51);
        Due.is("undo()", x.undo(), 1);
        Due.is("the TICK", x.count(2), 50);
        Due.is("undo()", x.undo(), 0);
        Due.is("fifty at once", x.count(2), 0);
        Due.is("SENT", x.count(3), 0);
    }

    private static void twentyAtMost() {
        Sentence.of(TERMS, "(20 at most).");
        for (int steps : new int[] {19, 20, 21, 22, 39, 40, 41, 60}) {
            LosslessFabric x = Due.fabric(ONE);
            for (int i = 1; i <= steps; i++) {
                x.tick(1);
                Due.is("step " + i, x.count(9), Math.min(20, i));
            }
            int left = Math.min(20, steps);
            while (left > 0) {
                left--;
                Due.is("undo()", x.undo(), left);
                Due.is("the TICK", x.count(2), steps - Math.min(20, steps) + left);
            }
            Due.is("none", x.undo(), -1);
            Due.is("the TICK stays", x.count(2), Math.max(0, steps - 20));
        }
        // undone and done again at the edge
        LosslessFabric y = Due.fabric(ONE);
        for (int i = 0; i < 25; i++) {
            y.tick(1);
        }
        y.undo();
        y.undo();
        y.tick(5);
        Due.is("19", y.count(9), 19);
        y.tick(5);
        y.tick(5);
        Due.is("20", y.count(9), 20);
        for (int i = 0; i < 20; i++) {
            y.undo();
        }
        Due.is("the oldest that is left", y.count(2), 6);
    }

    private static void imageKeeps() {
        Sentence.of(TERMS, "An IMAGE keeps all");
        LosslessFabric x = Rich.fabric();
        String was = Shown.fabric(x);
        x.keep();
        x.tick(11);
        x.rate(0, 3);
        x.turn(1);
        x.bounds(0, 99, 98);
        x.size(2, 77);
        Due.is("all is another", Shown.fabric(x).equals(was), false);
        x.back();
        Due.same("all is as it was", Shown.fabric(x), was);
    }

    private static void imageLeaves() {
        Sentence.of(TERMS, "but the TAPE, the FAULT, what can be undone.");
        LosslessFabric x = Due.fabric(ONE);
        x.tick(1);
        x.tick(1);
        x.feed(0, 0, 0, 0, 0);
        x.keep();
        Due.is("keep leaves what can be undone", x.count(9), 2);
        Due.is("keep leaves the TAPE", x.count(10), 20);
        x.text(1);
        x.tick(2);
        Due.text(x, "link a 65");
        x.feed(0, 0, 0, 0, 0);
        x.feed(0, 0, 0, 0, 0);
        Due.is("back()", x.back(), 2);
        Due.is("the TAPE stays", x.count(10), 40);
        Due.is("the FAULT stays", x.fault(0), 2);
        Due.is("its place stays", x.fault(1), 7);
        Due.is("what could be undone is not kept", x.count(9), 0);
        LosslessFabric y = Due.fabric(ONE);
        y.feed(0, 0, 0, 0, 0);
        y.tick(1);
        y.undo();
        Due.is("undo leaves the TAPE", y.count(10), 20);
    }

    private static void noneGoesFirst() {
        Sentence.of(TERMS, "Of several answers that hold NONE goes first, then -2;");
        LosslessFabric x = new LosslessFabric();
        Due.is("cycle(-1), and there is none", x.cycle(-1), -1);
        Due.is("witness(-1), and there is none", x.witness(-1), -1);
        Due.is("worst(0), and none is ON", x.worst(0), -1);
        Due.is("worst(41), and none is ON", x.worst(41), -1);
        LosslessFabric y = new LosslessFabric();
        for (int i = 0; i < 199; i++) {
            y.tick(50);
        }
        y.tick(49);
        Due.is("tick(51) beyond 9999", y.tick(51), -1);
        Due.is("tick(most) beyond 9999", y.tick(Integer.MAX_VALUE), -1);
        Due.is("tick(0) at 9999", y.tick(0), -1);
        Due.is("tick(1) beyond 9999", y.tick(1), -2);
    }

    private static void exceptionsGoFirst() {
        Sentence.of(TERMS, "IndexOutOfBoundsException ahead of NoSuchElementException, both ahead of numbers.");
        LosslessFabric x = Due.fabric(ONE);
        int[] numbers = {Integer.MIN_VALUE, -1, 0, 1, 13, 14, Integer.MAX_VALUE};
        for (int link : numbers) {
            for (int what : numbers) {
                int due = link != 0 ? 1 : what < 0 || what > 13 ? 2 : 0;
                Due.is("link(" + link + ", " + what + ")", Due.thrownByLink(x, link, what), due);
            }
        }
    }

    private static void refusedChangesNothing() {
        Sentence.of(TERMS, "A call that is refused changes nothing.");
        Shown.refused("tick(0)", Rich::fabric, x -> x.tick(0), -1);
        Shown.refused("rate(0, 0)", Rich::fabric, x -> x.rate(0, 0), -1);
        Shown.refused("turn(3)", Rich::fabric, x -> x.turn(3), -1);
        Shown.refused("bounds(0, 1, 1)", Rich::fabric, x -> x.bounds(0, 1, 1) ? 1 : 0, 0);
        Shown.refused("size(0, 2000)", Rich::fabric, x -> x.size(0, 2000), -1);
        Shown.refused("link(0, 14)", Rich::fabric, x -> Due.thrownByLink(x, 0, 14), 2);
        Shown.refused("a feed too much", PastEdges::fullTape, x -> x.feed(0x23232323, 0, 0, 0, 0), -1);
        Shown.refused("back() without an image", () -> Due.fabric(ONE + "seed 3;"), LosslessFabric::back, -1);
        Shown.refused("undo() of none", () -> Due.fabric(ONE + "seed 3;"), LosslessFabric::undo, -1);
        Shown.refused("undo() behind back()", PastEdges::fromImage, LosslessFabric::undo, -1);
        Shown.refused("undo() of a new one", LosslessFabric::new, LosslessFabric::undo, -1);
        Shown.refused("back() of a new one", LosslessFabric::new, LosslessFabric::back, -1);
    }

    private static LosslessFabric fullTape() {
        LosslessFabric x = Rich.fabric();
        for (int i = 0; i < 33; i++) {
            x.feed(0x20202020, 0x20202020, 0x20202020, 0x20202020, 0x20202020);
        }
        Due.is("a full TAPE", x.count(10), 700);
        return x;
    }

    private static LosslessFabric fromImage() {
        LosslessFabric x = Rich.fabric();
        x.back();
        return x;
    }

    private static void undo() {
        Sentence.of(33, "The latest is undone: how many are left;");
        LosslessFabric x = Rich.fabric();
        for (int left = Rich.STEPS - 1; left >= 0; left--) {
            Due.is("undo()", x.undo(), left);
            Due.is("count(9)", x.count(9), left);
        }
        Due.same("as told", Shown.fabric(x), Shown.fabric(Due.fabric(Rich.TEXT)));
        Sentence.of(33, "NONE: none.");
        Due.is("undo()", x.undo(), -1);
        Due.is("undo()", x.undo(), -1);
        Due.same("as told", Shown.fabric(x), Shown.fabric(Due.fabric(Rich.TEXT)));
        Due.is("the image stays", x.back(), Rich.IMAGE_TICK);
        Due.is("of a new one", new LosslessFabric().undo(), -1);
    }

    private static void keep() {
        Sentence.of(34, "An IMAGE is kept (in place of one ahead): the TICK.");
        LosslessFabric x = Due.fabric(ONE);
        Due.is("keep() at first", x.keep(), 0);
        x.tick(7);
        Due.is("keep()", x.keep(), 7);
        x.tick(7);
        Due.is("the one ahead is gone", x.back(), 7);
        Due.is("of a new one", new LosslessFabric().keep(), 0);
        LosslessFabric y = Due.fabric(ONE);
        y.tick(4);
        y.keep();
        y.undo();
        Due.is("what is undone is in the IMAGE", y.back(), 4);
        Due.is("SENT", y.count(3), 4);
    }

    private static void back() {
        Sentence.of(35, "All is as in the IMAGE (nothing to undo then; it stays): the TICK;");
        LosslessFabric x = Rich.fabric();
        Due.is("back()", x.back(), Rich.IMAGE_TICK);
        String image = Shown.fabric(x);
        Due.is("nothing to undo", x.count(9), 0);
        Due.is("nothing to undo", x.undo(), -1);
        x.tick(30);
        x.turn(0);
        Due.is("two steps since", x.count(9), 2);
        Due.is("it stays", x.back(), Rich.IMAGE_TICK);
        Due.same("as in the IMAGE", Shown.fabric(x), image);
        Due.is("nothing to undo", x.count(9), 0);
        LosslessFabric made = Due.fabric(Rich.TEXT);
        made.tick(9);
        made.turn(2);
        Due.same("as when it was kept", image, Shown.fabric(made));
        Sentence.of(35, "NONE: there is none.");
        Due.is("of a new one", new LosslessFabric().back(), -1);
        Due.is("of a text", Due.fabric(ONE).back(), -1);
        x.text(0);
        Due.is("a text leaves none", x.back(), -1);
    }

    private static void count() {
        Sentence.of(36, "0 LINKS, 1 FLOWS, 2 the TICK, 3 all SENT, 4 all DELIVERED, 5 all LOST, 6 all NOTICES, 7 FLOWS that are ON, "
            + "8 LINKS that ASKED pause, 9 what can be undone, 10 bytes of the TAPE.");
        // f: 5 cells to a queue of 3; g: 2 cells that are delivered; h is OFF
        LosslessFabric x = Due.fabric("link a 9 4 3 0 3;link b 9 4 9 0 9;flow f 80 a b;flow g 32 b;flow h 16 b;off h;sample 3 1 0;stage 999 99 1;");
        int[] first = {2, 3, 0, 0, 0, 0, 0, 2, 0, 0, 0};
        int[] second = {2, 3, 1, 7, 2, 2, 1, 2, 1, 1, 0};
        for (int what = 0; what <= 10; what++) {
            Due.is("count(" + what + ")", x.count(what), first[what]);
        }
        x.tick(1);
        for (int what = 0; what <= 10; what++) {
            Due.is("TICK 1: count(" + what + ")", x.count(what), second[what]);
        }
        x.turn(2);
        x.feed(1, 2, 3, 4, 5);
        Due.is("ON", x.count(7), 3);
        Due.is("two steps", x.count(9), 2);
        Due.is("bytes", x.count(10), 20);
        Sentence.of(36, "NONE for another what.");
        for (int what : new int[] {-1, 11, Integer.MIN_VALUE, Integer.MAX_VALUE}) {
            Shown.refused("count(" + what + ")", Rich::fabric, y -> y.count(what), -1);
        }
        for (int what = 0; what <= 10; what++) {
            Due.is("of a new one: count(" + what + ")", new LosslessFabric().count(what), 0);
        }
    }

    private static void countAll() {
        Sentence.of(36, "3 all SENT, 4 all DELIVERED, 5 all LOST, 6 all NOTICES, 7 FLOWS that are ON, 8 LINKS that ASKED pause,");
        LosslessFabric x = Rich.fabric();
        int[] sums = new int[9];
        for (int f = 0; f <= 2; f++) {
            sums[3] += x.flow(f, 4);
            sums[4] += x.flow(f, 5);
            sums[6] += x.flow(f, 6);
            sums[7] += x.flow(f, 7);
        }
        for (int l = 0; l <= 2; l++) {
            sums[5] += x.link(l, 8);
            sums[6] += x.link(l, 11);
            sums[8] += x.link(l, 6);
        }
        // links and flows count the same notices
        sums[6] /= 2;
        for (int what = 3; what <= 8; what++) {
            Due.is("count(" + what + ")", x.count(what), sums[what]);
        }
        StringBuilder most = new StringBuilder();
        for (int l = 0; l < 10; l++) {
            most.append("link ").append((char) ('a' + l)).append(" 9 4 1 0 9;");
        }
        for (int f = 0; f < 8; f++) {
            most.append("flow ").append((char) ('a' + f)).append(" 16 ").append((char) ('a' + f)).append(" j;");
        }
        LosslessFabric y = Due.fabric(most.toString());
        y.tick(1);
        int[] due = {10, 8, 1, 8, 0, 0, 0, 8, 8, 1, 0};
        for (int what = 0; what <= 10; what++) {
            Due.is("the most: count(" + what + ")", y.count(what), due[what]);
        }
    }
}
