/** Promises 1 to 5: a new object, feed, text, fault, named. */
public final class TextTest {
    private static final String LINK = "link a 1 0 2 1 5;";

    public static void main(String[] args) {
        newObject();
        feed();
        lengths();
        blanks();
        tokens();
        endsTooSoon();
        bounds();
        tooMany();
        toldAlready();
        untold();
        firstAlongTheText();
        defaults();
        faultLeavesAllElse();
        textBeginsAnew();
        faults();
        named();
        Due.end();
    }

    private static void newObject() {
        LosslessFabric x = new LosslessFabric();
        for (int what = 0; what <= 10; what++) {
            Due.is("new: count(" + what + ")", x.count(what), 0);
        }
        Due.is("new: fault(0)", x.fault(0), 0);
        Due.is("new: fault(1)", x.fault(1), -1);
        Due.is("new: undo()", x.undo(), -1);
        Due.is("new: back()", x.back(), -1);
        Due.is("new: text(0)", x.text(0), 0);
        Due.is("new: text(1)", x.text(1), -2);
        Due.is("NONE", LosslessFabric.NONE, -1);
    }

    private static void feed() {
        LosslessFabric x = new LosslessFabric();
        for (int i = 1; i <= 35; i++) {
            Due.is("feed " + i, x.feed(0x20202020, 0x0a0a0a0a, 0x20202020, 0x20202020, 0x20202020), 20 * i);
            Due.is("bytes", x.count(10), 20 * i);
        }
        Due.is("feed 36", x.feed(0x23232323, 0x23232323, 0x23232323, 0x23232323, 0x23232323), -1);
        Due.is("none came", x.count(10), 700);
        Due.is("text(701)", x.text(701), -2);
        Due.is("text(700)", x.text(700), 0);
        Due.is("empty then", x.count(10), 0);
        // the highest byte first, and numbers in their order: "seed 12345;" and blanks
        Due.is("feed", x.feed(0x73656564, 0x20313233, 0x34353b20, 0x20202020, 0x20202020), 20);
        Due.is("text", x.text(11), 1);
        // bytes above 127 are no blanks
        Due.is("feed", x.feed(0xa0a0a0a0, -1, 0, 0, 0), 20);
        Due.is("text", x.text(1), -1);
        Due.is("fault(0)", x.fault(0), 1);
        Due.is("fault(1)", x.fault(1), 0);
        Due.is("not undone", x.count(9), 0);
    }

    private static void lengths() {
        LosslessFabric x = new LosslessFabric();
        Due.feed(x, LINK);
        Due.is("text(-1)", x.text(-1), -2);
        Due.is("text(least)", x.text(Integer.MIN_VALUE), -2);
        Due.is("text(21)", x.text(21), -2);
        Due.is("text(most)", x.text(Integer.MAX_VALUE), -2);
        Due.is("the tape stays", x.count(10), 20);
        Due.is("text(20)", x.text(20), 1);
        Due.is("the tape is empty", x.count(10), 0);
        Due.feed(x, LINK + LINK);
        Due.is("only the first bytes", x.text(17), 1);
        Due.is("all bytes go", x.count(10), 0);
        Due.feed(x, LINK);
        Due.is("text(0)", x.text(0), 0);
        Due.is("all bytes go", x.count(10), 0);
        Due.is("no links then", x.count(0), 0);
        Due.feed(x, LINK);
        Due.is("cut short", x.text(16), -1);
        Due.is("all bytes go", x.count(10), 0);
        // a word, a number that goes on behind what is read
        Due.feed(x, "seed 123456");
        Due.is("within a number", x.text(8), -1);
        Due.is("the length", x.fault(1), 8);
        Due.feed(x, "offer");
        Due.is("within a word", x.text(3), -1);
        Due.is("the length", x.fault(1), 3);
        fillTape(x, "seed 000000000000007");
        Due.is("a number up to the last byte", x.text(700), -1);
        Due.is("its end", x.fault(1), 700);
        fillTape(x, "link            abcd");
        Due.is("a word up to the last byte", x.text(700), -1);
        Due.is("its end", x.fault(1), 700);
        fillTape(x, "seed        1234567;");
        Due.is("a semicolon as the last byte", x.text(700), -1);
        Due.is("too much", x.fault(0) * 1000 + x.fault(1), 2692);
        fillTape(x, "seed          12345;");
        Due.is("a semicolon as the last byte", x.text(700), 1);
    }

    /** 680 blanks, and twenty signs. */
    private static void fillTape(LosslessFabric x, String twenty) {
        for (int i = 0; i < 34; i++) {
            x.feed(0x20202020, 0x20202020, 0x20202020, 0x20202020, 0x20202020);
        }
        Due.feed(x, twenty);
        Due.is("a full tape", x.count(10), 700);
    }

    private static void blanks() {
        lines("\n link\na  1 0\n\n2 1 5 \n;\n \n", 1);
        lines("", 0);
        lines("   \n", 0);
        lines("link a1 0 2 1 5;flow b16a;", 2);
        lines("seed 1;stage 1 1 1;sample 1 1 1;", 3);
        Due.fault("link\ta 1 0 2 1 5;", 1, 4);
        Due.fault("link a 1 0 2 1 5;\r", 1, 17);
        Due.fault("\u0000", 1, 0);
        Due.fault(" \u000b", 1, 1);
    }

    private static void lines(String text, int lines) {
        LosslessFabric x = new LosslessFabric();
        Due.is("lines of \"" + text + "\"", Due.text(x, text), lines);
        Due.is("fault(0)", x.fault(0), 0);
        Due.is("fault(1)", x.fault(1), -1);
    }

    private static void tokens() {
        Due.fault(";", 1, 0);
        Due.fault(LINK + ";", 1, 17);
        Due.fault("a", 1, 0);
        Due.fault("7", 1, 0);
        Due.fault("Link a 1 0 2 1 5;", 1, 0);
        Due.fault("lInk a 1 0 2 1 5;", 1, 0);
        Due.fault("linka 1 0 2 1 5;", 1, 0);
        Due.fault("links a 1 0 2 1 5;", 1, 0);
        Due.fault("sampl 1 1 1;", 1, 0);
        Due.fault("samples 1 1 1;", 1, 0);
        Due.fault("sampler 1 1 1;", 1, 0);
        Due.fault("link abcdefg 1 0 2 1 5;", 1, 5);
        lines("link abcdef 1 0 2 1 5;link z 1 0 2 1 5;", 2);
        lines("link linka 1 0 2 1 5;link offoff 1 0 2 1 5;", 2);
        for (String word : new String[] {"link", "flow", "sample", "stage", "off", "seed"}) {
            Due.fault("link " + word + " 1 0 2 1 5;", 1, 5);
            Due.fault(LINK + "flow " + word + " 1 a;", 1, 22);
            Due.fault(LINK + "flow f 1 " + word + ";", 1, 26);
            Due.fault(LINK + "flow f 1 a " + word + ";", 1, 28);
            Due.fault("off " + word + ";", 1, 4);
            Due.fault("seed " + word + ";", 1, 5);
        }
        Due.fault("link 1 1 0 2 1 5;", 1, 5);
        Due.fault("link a b 0 2 1 5;", 1, 7);
        Due.fault("link a 1 0 2 1;", 1, 14);
        Due.fault("link a 1 0 2 1 5 6;", 1, 17);
        Due.fault("link a -1 0 2 1 5;", 1, 7);
        Due.fault("link a 1,0 2 1 5;", 1, 8);
        Due.fault(LINK + "flow f a;", 1, 24);
        Due.fault(LINK + "flow f 1;", 1, 25);
        Due.fault(LINK + "flow f 1 2;", 1, 26);
        Due.fault(LINK + "flow f 1 a 2;", 1, 28);
        Due.fault(LINK + "flow 1 a;", 1, 22);
        Due.fault("sample 1 1;", 1, 10);
        Due.fault("sample 1 1 1 1;", 1, 13);
        Due.fault("stage 1 a 1;", 1, 8);
        Due.fault("stage 1 1 1 1;", 1, 12);
        Due.fault("off 1;", 1, 4);
        Due.fault(LINK + "flow f 1 a;off f f;", 1, 34);
        Due.fault("seed ;", 1, 5);
        Due.fault("seed 1 2;", 1, 7);
        Due.fault("seed \u00e9;", 1, 5);
        Due.fault("seed 1:", 1, 6);
    }

    private static void endsTooSoon() {
        String whole = LINK + "flow f 1 a;sample 1 1 1;stage 1 1 1;off f;seed 1;";
        lines(whole, 6);
        for (int n = 1; n < whole.length(); n++) {
            LosslessFabric x = new LosslessFabric();
            String part = whole.substring(0, n);
            boolean ends = part.endsWith(";");
            Due.is("text \"" + part + "\"", Due.text(x, part) >= 0, ends);
            Due.is("fault(0) of \"" + part + "\"", x.fault(0), ends ? 0 : 1);
        }
        Due.fault("link", 1, 4);
        Due.fault("link  \n", 1, 7);
        Due.fault("link a 1 0 2 1 5", 1, 16);
        Due.fault("link a 1 0 2 1 5  ", 1, 18);
        Due.fault(LINK + "flow f 1", 1, 25);
        Due.fault(LINK + "flow f 1 a", 1, 27);
        Due.fault("off", 1, 3);
        Due.fault("seed 4", 1, 6);
        Due.fault("lin", 1, 0);
    }

    private static void bounds() {
        bound("link a ", " 0 2 1 5;", 1, 64);
        bound("link a 1 ", " 2 1 5;", 0, 4);
        bound("link a 1 0 ", " 0 5;", 1, 999);
        bound("link a 1 0 999 ", " 5;", 0, 998);
        bound("link a 1 0 3 ", " 5;", 0, 2);
        bound("link a 1 0 1 ", " 5;", 0, 0);
        bound("link a 1 0 2 1 ", ";", 1, 1999);
        bound(LINK + "flow f ", " a;", 1, 1024);
        bound("sample ", " 1 1;", 1, 999);
        bound("sample 1 ", " 1;", 1, 500);
        bound("sample 1 1 ", ";", 0, 4);
        bound("stage ", " 1 1;", 1, 999);
        bound("stage 1 ", " 1;", 1, 99);
        bound("stage 1 1 ", ";", 1, 99);
        bound("seed ", ";", 0, 99999);
        lines("seed 000000000000000000000000000099999;", 1);
        Due.fault("seed 000000000000000000000000000100000;", 2, 5);
        Due.fault("seed 4294967296;", 2, 5);
        Due.fault("seed 18446744073709551616;", 2, 5);
        Due.fault("seed 99999999999999999999999999999999999999999999;", 2, 5);
    }

    private static void bound(String before, String behind, int least, int most) {
        LosslessFabric x = new LosslessFabric();
        Due.is(before + least, Due.text(x, before + least + behind) > 0, true);
        Due.is(before + most, Due.text(x, before + most + behind) > 0, true);
        Due.fault(before + (most + 1) + behind, 2, before.length());
        if (least > 0) {
            Due.fault(before + (least - 1) + behind, 2, before.length());
        }
    }

    private static void tooMany() {
        StringBuilder links = new StringBuilder();
        for (int l = 0; l < 10; l++) {
            links.append("link ").append((char) ('a' + l)).append(" 1 0 2 1 5;");
        }
        lines(links.toString(), 10);
        Due.fault(links + " link", 2, 171);
        Due.fault(links + "link a", 2, 170);
        StringBuilder flows = new StringBuilder(LINK);
        for (int f = 0; f < 8; f++) {
            flows.append("flow ").append((char) ('a' + f)).append(" 1 a;");
        }
        lines(flows.toString(), 9);
        Due.fault(flows + "flow", 2, 17 + 8 * 11);
        lines(links + "flow f 1 a b c d e;", 11);
        Due.fault(links + "flow f 1 a b c d e f;", 2, 189);
        // of one place the least
        Due.fault(links + "flow f 1 a b c d e a;", 2, 189);
        Due.fault(links + "flow f 1 a b c d e zzz;", 2, 189);
        Due.fault(links + "flow f 1 a b c d e abcdefg;", 1, 189);
        Due.fault(links + "flow f 1 a b c d e 7;", 1, 189);
        Due.fault(links + "flow f 1 a b c d e off;", 1, 189);
        Due.fault(links + "flow f 1 a b c d e ", 1, 189);
    }

    private static void toldAlready() {
        Due.fault(LINK + "link a 1 0 2 1 5;", 3, 22);
        Due.fault(LINK + "flow f 1 a;flow f 1 a;", 3, 33);
        lines(LINK + "flow a 1 a;", 2);
        lines("link a 1 0 2 1 5;link aa 1 0 2 1 5;link aaa 1 0 2 1 5;link b 1 0 2 1 5;", 4);
        Due.fault(LINK + "flow f 1 a a;", 3, 28);
        Due.fault(LINK + "link b 1 0 2 1 5;flow f 1 a b a;", 3, 47);
        lines(LINK + "link b 1 0 2 1 5;flow f 1 a b;flow g 1 b a;flow h 1 a b;", 5);
        Due.fault("sample 1 1 1;sample 1 1 1;", 3, 13);
        Due.fault("stage 1 1 1; stage 1 1 1;", 3, 13);
        Due.fault("seed 1;seed", 3, 7);
        Due.fault(LINK + "flow f 1 a;off f;off f;", 3, 38);
        lines(LINK + "flow f 1 a;off f;flow g 1 a;off g;", 5);
    }

    private static void untold() {
        Due.fault("flow f 1 a;" + LINK, 4, 9);
        Due.fault(LINK + "flow f 1 a b;", 4, 28);
        Due.fault("off f;", 4, 4);
        Due.fault(LINK + "off a;", 4, 21);
        Due.fault(LINK + "off f;flow f 1 a;", 4, 21);
        Due.fault(LINK + "flow f 1 f;", 4, 26);
        Due.fault(LINK + "flow f 1 aa;", 4, 26);
    }

    private static void firstAlongTheText() {
        Due.fault("link a 65 0 2 1 5;#", 2, 7);
        Due.fault("link a 0 9 2 1 5", 2, 7);
        Due.fault("off f;#", 4, 4);
        Due.fault("link a 1 0 0 5 0;", 2, 11);
        Due.fault(LINK + "flow f 0 b;", 2, 24);
        Due.fault(LINK + LINK + "off f;", 3, 22);
    }

    private static void defaults() {
        LosslessFabric x = Due.fabric("link a 64 0 999 0 1999;link b 1 0 999 0 1999;flow f 304 a b;");
        Due.is("MIDDLE is 26", x.feedback(0), -26);
        x.tick(1);
        Due.is("WEIGHT is 2", x.feedback(0), 19 - 26 + 2 * 19);
        Due.is("19 by (26 times 5)", x.notice(0), 31 * 64 / 130);
        Due.is("19 cells are no sample", x.link(0, 13), 19);
        Due.is("19 cells are no sample", x.link(0, 10), 0);
        x.tick(1);
        Due.is("EACH is 20", x.link(0, 10), 1);
        Due.is("EACH is 20", x.link(0, 13), 18);
        LosslessFabric y = Due.fabric("link a 64 0 999 0 1999;flow f 784 a;");
        y.tick(1);
        Due.is("49 cells are no stage", y.flow(0, 2), 0);
        y.tick(8);
        Due.is("9 ticks are no stage", y.flow(0, 3), 0);
        Due.is("CELLS are 50", y.flow(0, 2), 441 / 50);
        Due.is("CELLS are 50", y.flow(0, 10), 441 % 50);
        y.tick(1);
        Due.is("TICKS are 10", y.flow(0, 3), 1);
        LosslessFabric z = Due.fabric("link a 1 0 9 0 9;flow f 1 a;");
        z.tick(50);
        Due.is("five stages are none too many", z.flow(0, 1), 1);
        z.tick(10);
        Due.is("MORE is 4", z.flow(0, 1), 5);
        Due.is("seed is 0", z.chance(-1, 50, 50, 0), z.chance(0, 50, 50, 0));
        LosslessFabric w = Due.fabric("sample 1 500 0;stage 1 1 99;seed 99999;link a 1 0 9 0 9;flow f 1 a;");
        Due.is("all is anew with a text", Due.text(w, "link a 1 0 9 0 9;flow f 1 a;"), 2);
        Due.is("MIDDLE is 26", w.feedback(0), -26);
        w.tick(50);
        Due.is("five stages are none too many", w.flow(0, 1), 1);
        String turned = "link a 9 0 9 0 9;flow f 16 a;flow g 32 a;";
        LosslessFabric v = Due.fabric(turned + "seed 99999;");
        int[] byText = new int[30];
        boolean differs = false;
        for (int n = 1; n <= 30; n++) {
            byText[n - 1] = v.chance(-1, n, 50, 0);
            Due.is("the seed of the text", byText[n - 1], v.chance(99999, n, 50, 0));
            differs |= byText[n - 1] != v.chance(0, n, 50, 0);
        }
        Due.is("another than 0", differs, true);
        for (int texts = 0; texts < 3; texts++) {
            Due.text(v, turned);
            for (int n = 1; n <= 30; n++) {
                Due.is("seed is 0 again", v.chance(-1, n, 50, 0), v.chance(0, n, 50, 0));
            }
        }
    }

    private static void faultLeavesAllElse() {
        LosslessFabric x = Due.fabric("link a 4 0 9 1 50;link b 1 0 9 1 50;flow f 64 a b;seed 5;");
        x.tick(3);
        x.keep();
        x.tick(2);
        int before = x.link(0, 5);
        Due.is("text with a fault", Due.text(x, "link c 1 0 2 1 5;link d 1 0 2 1 5;flow x 3 d;flow y 3 q;"), -1);
        Due.is("fault(0)", x.fault(0), 4);
        Due.is("fault(1)", x.fault(1), 54);
        Due.is("the tape is empty", x.count(10), 0);
        Due.is("queue", x.link(0, 5), before);
        Due.is("tick", x.count(2), 5);
        Due.is("flows", x.count(1), 1);
        Due.is("names", x.named(0, Due.letters("a")), 0);
        Due.is("names", x.named(0, Due.letters("c")), -1);
        Due.is("names", x.named(1, Due.letters("x")), -1);
        Due.is("path", x.path(0, 1), 1);
        Due.is("rate", x.flow(0, 0), 64);
        Due.is("undo", x.undo(), 1);
        Due.is("tick", x.count(2), 3);
        Due.is("back", x.back(), 3);
        Due.is("tick", x.tick(1), 4);
    }

    private static void textBeginsAnew() {
        LosslessFabric x = Due.fabric("link a 4 0 2 1 50;link b 1 0 2 1 50;flow f 64 a b;off f;");
        x.turn(0);
        x.tick(9);
        x.keep();
        Due.is("text", Due.text(x, "link b 2 1 3 1 50;link a 1 0 2 1 50;flow g 64 b a;flow f 3 a;"), 4);
        Due.is("TICK 0", x.count(2), 0);
        Due.is("no image", x.back(), -1);
        Due.is("nothing to undo", x.undo(), -1);
        Due.is("nothing to undo", x.count(9), 0);
        Due.is("all are ON", x.count(7), 2);
        for (int what = 5; what <= 13; what++) {
            Due.is("link(0, " + what + ")", x.link(0, what), 0);
        }
        Due.is("sent", x.count(3), 0);
        Due.is("credit", x.flow(0, 8), 0);
        Due.is("queue(0, 0)", x.queue(0, 0), 0);
        Due.is("named", x.named(0, Due.letters("b")), 0);
        Due.is("named", x.named(1, Due.letters("f")), 1);
    }

    private static void faults() {
        LosslessFabric x = new LosslessFabric();
        Due.text(x, "link a 65");
        Due.is("fault(0)", x.fault(0), 2);
        Due.is("text(-1)", x.text(-1), -2);
        Due.is("text(1)", x.text(1), -2);
        Due.is("-2 leaves the fault", x.fault(0), 2);
        Due.is("-2 leaves its place", x.fault(1), 7);
        Due.is("fault(2)", x.fault(2), -1);
        Due.is("fault(-1)", x.fault(-1), -1);
        Due.is("fault(most)", x.fault(Integer.MAX_VALUE), -1);
        Due.text(x, LINK);
        Due.is("none now", x.fault(0), 0);
        Due.is("none now", x.fault(1), -1);
    }

    private static void named() {
        LosslessFabric x = Due.fabric("link abcdef 1 0 2 1 5;link zzzzzz 1 0 2 1 5;link a 1 0 2 1 5;link ab 1 0 2 1 5;"
            + "flow ab 1 a;flow b 1 a;");
        String[] links = {"abcdef", "zzzzzz", "a", "ab"};
        for (int i = 0; i < links.length; i++) {
            Due.is("named(0, " + links[i] + ")", x.named(0, Due.letters(links[i])), i);
        }
        Due.is("named(1, ab)", x.named(1, Due.letters("ab")), 0);
        Due.is("named(1, b)", x.named(1, Due.letters("b")), 1);
        Due.is("named(1, a)", x.named(1, Due.letters("a")), -1);
        Due.is("named(0, b)", x.named(0, Due.letters("b")), -1);
        Due.is("named(2, a)", x.named(2, Due.letters("a")), -1);
        Due.is("named(-1, a)", x.named(-1, Due.letters("a")), -1);
        Due.is("not the first one lowest", x.named(0, 1), -1);
        Due.is("named(0, 0)", x.named(0, 0), -1);
        Due.is("named(0, -1)", x.named(0, -1), -1);
        Due.is("a sign too high", x.named(0, Due.letters("a") | 1 << 30), -1);
        Due.is("abcdef by its bits", x.named(0, 34638022), -1);
        Due.is("abcdef by its bits", x.named(0, 1 << 25 | 2 << 20 | 3 << 15 | 4 << 10 | 5 << 5 | 6), 0);
    }
}
