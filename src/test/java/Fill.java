/** A fabric in which a queue can be filled to the cell. */
final class Fill {
    static final String CALM = "sample 999 500 0;stage 999 99 1;";
    static final int HELD = 1;
    /** Flow z takes all that link b can carry, so cells of flow f stay in the queue of link a. */
    private static final String TEXT = "link a 64 4 999 0 1999;link b 1 4 999 0 1999;flow z 1024 b;flow f 16 a b;";

    private Fill() {
    }

    static LosslessFabric held(String settings) {
        return Due.fabric(TEXT + settings);
    }

    /** So many cells of flow f come to the queue of link a, up to 64 each tick. */
    static void come(LosslessFabric x, int cells) {
        int left = cells;
        while (left > 0) {
            int now = Math.min(64, left);
            x.rate(HELD, 16 * now);
            x.tick(1);
            left -= now;
        }
    }

    static LosslessFabric held(String settings, int cells) {
        LosslessFabric x = held(settings);
        come(x, cells);
        Due.is("the queue has " + cells, x.link(0, 5), cells);
        return x;
    }
}
