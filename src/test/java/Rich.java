/** A fabric with something of everything: ticks, losses, notices, an image, steps, a fault, a tape. */
final class Rich {
    static final String TEXT = "link a 4 1 3 1 9;link b 3 0 9 1 12;link c 2 2 5 1 4;flow f 64 a b;flow g 24 b c a;"
        + "flow h 40 c b;off h;sample 4 3 1;stage 3 4 10;seed 77;";
    static final int IMAGE_TICK = 9;
    static final int STEPS = 7;

    private Rich() {
    }

    static LosslessFabric fabric() {
        return fabric("seed 5;link q 1 0 2 1 3;");
    }

    /** The same with another text on its tape, which is not taken yet. */
    static LosslessFabric fabric(String tape) {
        LosslessFabric x = Due.fabric(TEXT);
        x.tick(9);
        x.turn(2);
        x.keep();
        x.tick(14);
        x.rate(0, 99);
        x.size(1, 7);
        x.bounds(2, 6, 2);
        x.tick(1);
        Due.text(x, "off q;");
        Due.feed(x, tape);
        return x;
    }
}
