/** Promises 17 to 22: headroom, safe, waits, cycle, witness, inCycles. */
public final class WaitTest {
    private static final String CALM = "sample 999 500 0;stage 999 99 1;";
    /** Stuck behind its first tick: each queue has a cell that goes on by the other link. */
    private static final String STUCK = CALM + "link a 1 0 1 0 9;link b 1 0 1 0 9;flow f 16 a b;flow g 16 b a;";

    public static void main(String[] args) {
        headroom();
        safe();
        waits();
        stuck();
        shortest();
        firstByNumbers();
        leastLinkInACycle();
        witnesses();
        mayWait();
        none();
        Due.end();
    }

    /** Links that ask for a pause as soon as one cell is there, one cell of each flow a tick. */
    private static String tight(int links, String... flows) {
        StringBuilder s = new StringBuilder(CALM);
        for (int l = 0; l < links; l++) {
            s.append("link ").append((char) ('a' + l)).append(" 9 0 1 0 9;");
        }
        for (int f = 0; f < flows.length; f++) {
            s.append("flow ").append((char) ('a' + f)).append(" 16 ").append(flows[f]).append(';');
        }
        return s.toString();
    }

    private static void ring(LosslessFabric x, int... links) {
        for (int i = 0; i < links.length; i++) {
            Due.is("cycle(" + i + ")", x.cycle(i), links[i]);
        }
        Due.is("cycle behind the last", x.cycle(links.length), -2);
        Due.is("witness behind the last", x.witness(links.length), -2);
        Due.is("cycle(most)", x.cycle(Integer.MAX_VALUE), -2);
        Due.is("witness(most)", x.witness(Integer.MAX_VALUE), -2);
        Due.is("cycle(-1)", x.cycle(-1), -1);
        Due.is("witness(-1)", x.witness(-1), -1);
        Due.is("cycle(least)", x.cycle(Integer.MIN_VALUE), -1);
    }

    private static void headroom() {
        LosslessFabric x = Due.fabric("link a 64 4 999 0 1999;link b 1 0 1 0 9;link c 5 2 7 3 21;");
        Due.is("headroom(0)", x.headroom(0), 998 + 64 * 5);
        Due.is("headroom(1)", x.headroom(1), 1);
        Due.is("headroom(2)", x.headroom(2), 6 + 15);
        Due.is("headroom(3)", x.headroom(3), -1);
        Due.is("headroom(-1)", x.headroom(-1), -1);
        x.bounds(2, 10, 1);
        Due.is("by its bounds now", x.headroom(2), 9 + 15);
    }

    private static void safe() {
        LosslessFabric x = Due.fabric("link a 64 4 999 0 1999;link b 2 0 1 0 1;link c 5 2 7 3 21;link d 5 2 7 3 20;link e 5 2 7 3 22;");
        Due.is("safe()", x.safe(), 1 + 4 + 16);
        x.size(3, 21);
        Due.is("safe()", x.safe(), 1 + 4 + 8 + 16);
        x.bounds(2, 8, 3);
        Due.is("safe()", x.safe(), 1 + 8 + 16);
        Due.is("of none", new LosslessFabric().safe(), 0);
    }

    private static void waits() {
        // a has cells for b and c, b is full, c is not
        LosslessFabric x = Due.fabric(CALM + "link a 4 0 2 0 9;link b 9 0 1 0 9;link c 9 0 50 0 99;link d 1 0 9 0 9;"
            + "flow f 32 a b d;flow g 32 a c d;flow h 160 b d;");
        x.tick(1);
        Due.is("a asked", x.link(0, 6), 1);
        Due.is("b asked", x.link(1, 6), 1);
        Due.is("c did not", x.link(2, 6), 0);
        Due.is("waits(0): b alone", x.waits(0), 2);
        Due.is("waits(1): d did not ask", x.waits(1), 0);
        Due.is("waits(2): it did not ask", x.waits(2), 0);
        Due.is("waits(3)", x.waits(3), 0);
        Due.is("waits(4)", x.waits(4), -1);
        Due.is("waits(-1)", x.waits(-1), -1);
        Due.is("no cycle", x.cycle(0), -2);
        Due.is("no cycle", x.inCycles(0), 0);
        // b and c asked both; then a has no cells for c any more
        LosslessFabric y = Due.fabric(tight(4, "a b d", "a c d", "b d a", "c d a"));
        y.tick(1);
        Due.is("waits(0): both", y.waits(0), 6);
        Due.is("d has none, it did not ask", y.waits(1), 0);
    }

    private static void stuck() {
        LosslessFabric x = Due.fabric(STUCK);
        Due.is("none yet", x.cycle(0), -2);
        Due.is("none yet", x.witness(0), -2);
        Due.is("none yet", x.inCycles(0), 0);
        Due.is("may be", x.inCycles(1), 3);
        x.tick(1);
        ring(x, 0, 1);
        Due.is("witness(0)", x.witness(0), 0);
        Due.is("witness(1)", x.witness(1), 1);
        Due.is("waits(0)", x.waits(0), 2);
        Due.is("waits(1)", x.waits(1), 1);
        Due.is("inCycles(0)", x.inCycles(0), 3);
        Due.is("inCycles(2)", x.inCycles(2), -1);
        Due.is("inCycles(-1)", x.inCycles(-1), -1);
        x.tick(50);
        ring(x, 0, 1);
        Due.is("nothing is delivered", x.count(4), 0);
        Due.is("looking changes nothing", x.count(9), 2);
    }

    private static void shortest() {
        LosslessFabric x = Due.fabric(tight(4, "a b", "b c", "c a", "a d", "d a"));
        x.tick(1);
        ring(x, 0, 3);
        Due.is("witness(0)", x.witness(0), 3);
        Due.is("witness(1)", x.witness(1), 4);
        Due.is("all lie in one", x.inCycles(0), 15);
        LosslessFabric y = Due.fabric(tight(5, "a b", "b c", "c d", "d a", "b e", "e a"));
        y.tick(1);
        ring(y, 0, 1, 4);
    }

    private static void firstByNumbers() {
        LosslessFabric x = Due.fabric(tight(4, "d a", "c d", "a c", "b d", "a b"));
        x.tick(1);
        ring(x, 0, 1, 3);
        Due.is("witness(0)", x.witness(0), 4);
        Due.is("witness(1)", x.witness(1), 3);
        Due.is("witness(2)", x.witness(2), 0);
        Due.is("all lie in one", x.inCycles(0), 15);
        LosslessFabric y = Due.fabric(tight(7, "a c", "a b", "b f", "b e", "c d", "d a", "e g", "f a"));
        y.tick(1);
        ring(y, 0, 1, 5);
    }

    private static void leastLinkInACycle() {
        // a waits for b, but lies in no cycle; b to e is longer than d, e
        LosslessFabric x = Due.fabric(tight(6, "a b", "b c", "c d", "d b", "d e", "e d", "f d"));
        x.tick(1);
        ring(x, 1, 2, 3);
        Due.is("not a, not f", x.inCycles(0), 30);
        Due.is("a waits", x.waits(0), 2);
        // a lies in no cycle, though b waits for it
        LosslessFabric z = Due.fabric(tight(4, "b a", "a d", "b c", "c b"));
        z.tick(1);
        Due.is("b waits for a and c", z.waits(1), 5);
        Due.is("witness first", z.witness(1), 3);
        Due.is("witness first", z.witness(0), 2);
        ring(z, 1, 2);
        // another text: what was waited for ahead of it is forgotten
        Due.is("text", Due.text(z, tight(4, "a b c d")), 7);
        Due.is("none", z.inCycles(1), 0);
        Due.is("none", z.inCycles(0), 0);
        // ten in one ring
        LosslessFabric y = Due.fabric(tight(10, "a b c", "c d e", "e f g", "g h i", "i j a", "b c", "d e", "f g"));
        Due.is("h and j have no cells of their own yet", y.tick(1), 1);
        Due.is("none", y.cycle(0), -2);
        Due.is("may be", y.inCycles(1), 1023);
    }

    private static void witnesses() {
        LosslessFabric x = Due.fabric(tight(3, "b a", "a b", "a b c", "c a", "b a c") + "off a;off b;");
        x.tick(1);
        ring(x, 0, 1);
        Due.is("the least that has cells there", x.witness(0), 2);
        Due.is("the least that has cells there", x.witness(1), 4);
        x.turn(0);
        x.turn(1);
        x.tick(1);
        Due.is("paused: none comes", x.witness(0), 2);
    }

    private static void mayWait() {
        LosslessFabric x = Due.fabric(tight(5, "a b c", "c d", "d b", "e a") + "off c;");
        Due.is("b, c, d", x.inCycles(1), 14);
        Due.is("OFF or ON", x.turn(2), 1);
        Due.is("b, c, d", x.inCycles(1), 14);
        LosslessFabric y = Due.fabric(tight(4, "a b c", "b c d", "a d"));
        Due.is("none", y.inCycles(1), 0);
        LosslessFabric z = Due.fabric(tight(4, "a b c d", "d a"));
        Due.is("all", z.inCycles(1), 15);
        LosslessFabric w = Due.fabric(tight(5, "a b", "b a", "c d", "d c", "b c", "a e"));
        Due.is("two of them, not e", w.inCycles(1), 15);
    }

    private static void none() {
        LosslessFabric x = new LosslessFabric();
        ring(x);
        Due.is("inCycles(0)", x.inCycles(0), 0);
        Due.is("inCycles(1)", x.inCycles(1), 0);
        Due.is("waits(0)", x.waits(0), -1);
        Due.is("headroom(0)", x.headroom(0), -1);
    }
}
