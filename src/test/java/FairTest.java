/** Promises 23 and 24: fair, full. */
public final class FairTest {
    public static void main(String[] args) {
        alone();
        shared();
        inLeastTerms();
        manyLevels();
        filledByChance();
        onAndOff();
        wrong();
        Due.end();
    }

    private static String links(int... caps) {
        StringBuilder s = new StringBuilder();
        for (int l = 0; l < caps.length; l++) {
            s.append("link ").append((char) ('a' + l)).append(' ').append(caps[l]).append(" 0 9 1 99;");
        }
        return s.toString();
    }

    private static void is(LosslessFabric x, int flow, long upper, long lower) {
        Due.is("fair(" + flow + ", false)", x.fair(flow, false), upper);
        Due.is("fair(" + flow + ", true)", x.fair(flow, true), lower);
    }

    private static void alone() {
        LosslessFabric x = Due.fabric(links(64, 7) + "flow f 1 a;flow g 1024 b;");
        is(x, 0, 64, 1);
        is(x, 1, 7, 1);
        Due.is("both", x.full(), 3);
    }

    private static void shared() {
        LosslessFabric x = Due.fabric(links(10, 3) + "flow f 1 a b;flow g 1 a;flow h 1 b;");
        is(x, 0, 3, 2);
        is(x, 1, 17, 2);
        is(x, 2, 3, 2);
        Due.is("both are full", x.full(), 3);
        LosslessFabric y = Due.fabric(links(10, 3, 5) + "flow f 1 a b c;");
        is(y, 0, 3, 1);
        Due.is("the least alone", y.full(), 2);
    }

    private static void inLeastTerms() {
        LosslessFabric x = Due.fabric(links(6) + "flow f 1 a;flow g 1 a;flow h 1 a;flow k 1 a;");
        is(x, 0, 3, 2);
        is(x, 3, 3, 2);
        LosslessFabric y = Due.fabric(links(64) + "flow a 1 a;flow b 1 a;flow c 1 a;flow d 1 a;flow e 1 a;flow f 1 a;flow g 1 a;flow h 1 a;");
        is(y, 7, 8, 1);
        LosslessFabric z = Due.fabric(links(1) + "flow a 1 a;flow b 1 a;flow c 1 a;flow d 1 a;flow e 1 a;flow f 1 a;flow g 1 a;flow h 1 a;");
        is(z, 0, 1, 8);
    }

    private static void manyLevels() {
        // three at 1/3, then two more at (4 less 1/3) by 3, then two at (9 less 11/9) by 2
        LosslessFabric x = Due.fabric(links(1, 4, 9) + "flow a 1 a;flow b 1 a;flow c 1 a b;flow d 1 b;flow e 1 b;flow f 1 b c;flow g 1 c;flow h 1 c;");
        is(x, 0, 1, 3);
        is(x, 1, 1, 3);
        is(x, 2, 1, 3);
        is(x, 3, 11, 9);
        is(x, 5, 11, 9);
        is(x, 6, 35, 9);
        is(x, 7, 35, 9);
        Due.is("all", x.full(), 7);
        LosslessFabric y = Due.fabric(links(1, 4, 10) + "flow a 1 a;flow b 1 a;flow c 1 a b;flow d 1 b;flow e 1 b;flow f 1 b c;flow g 1 c;flow h 1 c;");
        is(y, 6, 79, 18);
        is(y, 7, 79, 18);
        // eight levels, one flow each
        LosslessFabric z = Due.fabric(links(1, 3, 6, 10, 15, 21, 28, 36)
            + "flow a 1 a b;flow b 1 b c;flow c 1 c d;flow d 1 d e;flow e 1 e f;flow f 1 f g;flow g 1 g h;flow h 1 h;");
        is(z, 0, 1, 1);
        is(z, 1, 2, 1);
        is(z, 2, 4, 1);
        is(z, 3, 6, 1);
        is(z, 7, 36 - 16, 1);
        Due.is("all", z.full(), 255);
    }

    private static void filledByChance() {
        // c fills though both its flows stay by other links: 2 and 3
        LosslessFabric x = Due.fabric(links(2, 3, 5, 6) + "flow f 1 a c d;flow g 1 b c d;");
        is(x, 0, 2, 1);
        is(x, 1, 3, 1);
        Due.is("a, b, c, not d", x.full(), 7);
        // two links at one level
        LosslessFabric y = Due.fabric(links(2, 2, 4) + "flow f 1 a c;flow g 1 b c;");
        is(y, 0, 2, 1);
        is(y, 1, 2, 1);
        Due.is("all", y.full(), 7);
    }

    private static void onAndOff() {
        LosslessFabric x = Due.fabric(links(9, 4) + "flow f 1 a;flow g 1 a b;flow h 1 a;off h;");
        is(x, 0, 5, 1);
        is(x, 1, 4, 1);
        is(x, 2, 0, 1);
        Due.is("both", x.full(), 3);
        x.turn(2);
        is(x, 0, 3, 1);
        is(x, 2, 3, 1);
        Due.is("a alone", x.full(), 1);
        x.tick(20);
        is(x, 0, 3, 1);
        x.rate(0, 1024);
        is(x, 0, 3, 1);
        x.turn(0);
        x.turn(1);
        x.turn(2);
        is(x, 0, 0, 1);
        is(x, 1, 0, 1);
        Due.is("none", x.full(), 0);
    }

    private static void wrong() {
        LosslessFabric x = Due.fabric(links(9) + "flow f 1 a;");
        Due.is("fair(1, false)", x.fair(1, false), -1);
        Due.is("fair(1, true)", x.fair(1, true), -1);
        Due.is("fair(-1, true)", x.fair(-1, true), -1);
        Due.is("fair(most, true)", x.fair(Integer.MAX_VALUE, true), -1);
        Due.is("no flows", Due.fabric(links(9)).full(), 0);
        Due.is("no links", new LosslessFabric().full(), 0);
        Due.is("nothing changed", x.count(9), 0);
    }
}
