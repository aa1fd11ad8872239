/** The edges of the text: terms, part 1, and promises 1 to 5. */
final class TextEdges {
    private static final int TERMS = Sentence.TERMS;
    private static final String LINK = "link a 1 0 2 1 5;";
    private static final String BOTH = LINK + "flow f 1 a;";
    /** Cells of the second flow are delivered at once: no notice changes what it counts. */
    private static final String DELIVERED = "link a 64 0 9 0 9;link b 1 0 9 0 9;flow z 1 b;flow f 16 a;";
    private static final String[] LANGUAGE = {"link", "flow", "sample", "stage", "off", "seed"};

    private TextEdges() {
    }

    static void all() {
        linesEndWithSemicolons();
        forms();
        everySignOfAWord();
        everySignOfANumber();
        everyBlank();
        letters();
        wordsOfTheLanguage();
        numbersOfLinks();
        numbersOfFlows();
        samples();
        stages();
        offAndSeed();
        tenLinks();
        eightFlows();
        fiveLinksOfAFlow();
        noneTwice();
        kindsOfNames();
        firstAlongTheText();
        tokenFaults();
        tooMuch();
        toldAlready();
        notToldAhead();
        newObject();
        feed();
        text();
        textFaults();
        fault();
        named();
    }

    private static void lines(String text, int lines) {
        LosslessFabric x = new LosslessFabric();
        Due.is("lines of \"" + text + "\"", Due.text(x, text), lines);
        Due.is("fault(0) of \"" + text + "\"", x.fault(0), 0);
        Due.is("fault(1) of \"" + text + "\"", x.fault(1), -1);
    }

    private static String links(int n) {
        StringBuilder s = new StringBuilder();
        for (int l = 0; l < n; l++) {
            s.append("link ").append((char) ('a' + l)).append(" 1 0 2 1 5;");
        }
        return s.toString();
    }

    private static String flows(int n) {
        StringBuilder s = new StringBuilder(LINK);
        for (int f = 0; f < n; f++) {
            s.append("flow ").append((char) ('a' + f)).append(" 1 a;");
        }
        return s.toString();
    }

    private static void linesEndWithSemicolons() {
        Sentence.of(TERMS, "A TEXT: { LINE ';' }.");
        lines("", 0);
        lines(" \n ", 0);
        lines("seed 1;", 1);
        lines("seed 1;stage 1 1 1;", 2);
        Due.fault("seed 1", 1, 6);
        Due.fault(";", 1, 0);
        Due.fault("seed 1;;", 1, 7);
        Due.fault("seed 1 stage 1 1 1;", 1, 7);
        StringBuilder offs = new StringBuilder();
        for (int f = 0; f < 8; f++) {
            offs.append("off ").append((char) ('a' + f)).append(';');
        }
        String most = links(10) + flows(8).substring(LINK.length()) + offs + "sample 1 1 1;stage 1 1 1;seed 1;";
        lines(most, 29);
    }

    private static void forms() {
        form("link W N N N N N", "link b 1 0 2 1 5");
        form("flow W N W { W }", "flow g 1 a");
        form("sample N N N", "sample 1 1 1");
        form("stage N N N", "stage 1 1 1");
        form("off W", "off f");
        form("seed N.", "seed 1");
    }

    /** A token too few, one too many, one of the other kind, at each place of a line. */
    private static void form(String words, String line) {
        Sentence.of(TERMS, words);
        String[] tokens = line.split(" ");
        lines(BOTH + line + ";", 3);
        StringBuilder part = new StringBuilder(BOTH);
        for (int k = 0; k < tokens.length; k++) {
            String ahead = part.toString();
            String other = Character.isDigit(tokens[k].charAt(0)) ? "q" : "7";
            Due.fault(ahead + other + line.substring(ahead.length() - BOTH.length() + tokens[k].length()) + ";", 1, ahead.length());
            part.append(tokens[k]);
            Due.fault(part.toString(), 1, part.length());
            if (k + 1 < tokens.length) {
                Due.fault(part + ";", 1, part.length());
            }
            part.append(' ');
        }
        Due.fault(BOTH + line + " 7;", 1, BOTH.length() + line.length() + 1);
        if (!tokens[0].equals("flow")) {
            Due.fault(BOTH + line + " a;", 1, BOTH.length() + line.length() + 1);
        }
        for (String word : LANGUAGE) {
            Due.fault(BOTH + line + " " + word, 1, BOTH.length() + line.length() + 1);
        }
    }

    private static boolean isLetter(int sign) {
        return sign >= 97 && sign <= 122;
    }

    private static boolean isDigit(int sign) {
        return sign >= 48 && sign <= 57;
    }

    private static boolean isBlank(int sign) {
        return sign == 10 || sign == 32;
    }

    private static void everySignOfAWord() {
        Sentence.of(TERMS, "Words: small letters in a row;");
        for (int sign = 0; sign < 256; sign++) {
            String text = "link " + (char) sign + " 1 0 2 1 5;";
            if (isLetter(sign)) {
                lines(text, 1);
            } else {
                Due.fault(text, 1, isBlank(sign) ? 7 : 5);
            }
        }
        lines("link az 1 0 2 1 5;flow za 1 az;", 2);
        Due.fault("link a z 1 0 2 1 5;", 1, 7);
        Due.fault("li nk a 1 0 2 1 5;", 1, 0);
        Due.fault("LINK a 1 0 2 1 5;", 1, 0);
    }

    private static void everySignOfANumber() {
        Sentence.of(TERMS, "N: digits.");
        for (int sign = 0; sign < 256; sign++) {
            String text = "seed " + (char) sign + ";";
            if (isDigit(sign)) {
                lines(text, 1);
            } else {
                Due.fault(text, 1, isBlank(sign) ? 6 : 5);
            }
            String behind = "seed 1" + (char) sign;
            if (sign == ';') {
                lines(behind, 1);
            } else {
                Due.fault(behind, 1, isBlank(sign) || isDigit(sign) ? 7 : 6);
            }
        }
        Due.fault("seed 1 2;", 1, 7);
        Due.fault("seed +1;", 1, 5);
        Due.fault("seed -1;", 1, 5);
        Due.fault("seed 1.0;", 1, 6);
    }

    private static void everyBlank() {
        Sentence.of(TERMS, "Blanks 10, 32.");
        for (int sign = 0; sign < 256; sign++) {
            String text = "seed" + (char) sign + "1;";
            if (isBlank(sign) || isDigit(sign)) {
                lines(text, 1);
            } else {
                Due.fault(text, 1, isLetter(sign) ? 0 : 4);
            }
        }
        lines("link a1 0 2 1 5;flow b16a;off b;", 3);
        lines("\n\n  seed \n 1 \n ; \n", 1);
    }

    private static void letters() {
        Sentence.of(TERMS, "W: one of 1 .. 6 letters, none of those of the language;");
        String name = "bcdefghijk";
        for (int n = 1; n <= 10; n++) {
            String w = name.substring(0, n);
            if (n <= 6) {
                lines("link " + w + " 1 0 2 1 5;flow " + w + " 1 " + w + ";off " + w + ";", 3);
            } else {
                Due.fault("link " + w + " 1 0 2 1 5;", 1, 5);
                Due.fault(LINK + "flow " + w + " 1 a;", 1, 22);
                Due.fault(LINK + "flow f 1 " + w + ";", 1, 26);
                Due.fault(LINK + "flow f 1 a " + w + ";", 1, 28);
                Due.fault("off " + w + ";", 1, 4);
            }
        }
    }

    private static void wordsOfTheLanguage() {
        Sentence.of(TERMS, "none of those of the language;");
        for (String word : LANGUAGE) {
            Due.fault("link " + word + " 1 0 2 1 5;", 1, 5);
            Due.fault(LINK + "flow " + word + " 1 a;", 1, 22);
            Due.fault(LINK + "flow f 1 " + word + ";", 1, 26);
            Due.fault(LINK + "flow f 1 a " + word + ";", 1, 28);
            Due.fault("off " + word + ";", 1, 4);
            String shorter = word.substring(1);
            lines("link " + shorter + " 1 0 2 1 5;flow " + shorter + " 1 " + shorter + ";off " + shorter + ";", 3);
            if (word.length() < 6) {
                lines("link " + word + "s 1 0 2 1 5;flow z" + word + " 1 " + word + "s;off z" + word + ";", 3);
            }
        }
    }

    /** The last values that are taken, seen by a call, and the first ones that are not. */
    private static void number(String words, String ahead, String behind, int least, int most, Shown.Call told) {
        Sentence.of(TERMS, words);
        for (int n : new int[] {least, Math.min(least + 1, most), Math.max(most - 1, least), most}) {
            Due.is(ahead + n + behind, told.on(Due.fabric(ahead + n + behind)), n);
        }
        Due.is("zeros ahead", told.on(Due.fabric(ahead + "00000000000000000000" + most + behind)), most);
        refusedNumbers(ahead, behind, least, most);
    }

    private static void refusedNumbers(String ahead, String behind, int least, int most) {
        int place = ahead.length();
        Due.fault(ahead + (most + 1) + behind, 2, place);
        Due.fault(ahead + "00000000000000000000" + (most + 1) + behind, 2, place);
        if (least > 0) {
            Due.fault(ahead + (least - 1) + behind, 2, place);
            Due.fault(ahead + "000" + behind, 2, place);
        }
        // what would be in bounds if the number were cut to 32 or 64 bits
        Due.fault(ahead + "4294967297" + behind, 2, place);
        Due.fault(ahead + "18446744073709551617" + behind, 2, place);
        Due.fault(ahead + "99999999999999999999999999999999999999" + behind, 2, place);
        Due.fault(ahead + "-1" + behind, 1, place);
    }

    private static void numbersOfLinks() {
        number("CAP 1 .. 64,", "link a ", " 0 2 1 5;", 1, 64, x -> x.link(0, 0));
        number("DELAY 0 .. 4,", "link a 1 ", " 2 1 5;", 0, 4, x -> x.link(0, 1));
        number("XOFF 1 .. 999,", "link a 1 0 ", " 0 5;", 1, 999, x -> x.link(0, 2));
        number("XON 0 .. 998,", "link a 1 0 999 ", " 5;", 0, 998, x -> x.link(0, 3));
        for (int xoff : new int[] {1, 2, 3, 500, 998}) {
            number("less than XOFF,", "link a 1 0 " + xoff + " ", " 5;", 0, xoff - 1, x -> x.link(0, 3));
        }
        number("SIZE 1 .. 1999;", "link a 1 0 2 1 ", ";", 1, 1999, x -> x.link(0, 4));
        Sentence.of(TERMS, "less than XOFF,");
        Due.fault("link a 1 0 5 5 9;", 2, 13);
        Due.fault("link a 1 0 5 6 9;", 2, 13);
        lines("link a 1 0 5 4 9;", 1);
        lines("link a 1 0 999 998 1;", 1);
    }

    private static void numbersOfFlows() {
        number("RATE 1 .. 1024 (16ths of a cell each TICK)", LINK + "flow f ", " a;", 1, 1024, x -> x.flow(0, 0));
        LosslessFabric x = Due.fabric("link a 64 0 9 1 9;flow f 15 a;flow g 16 a;flow h 1024 a;");
        x.tick(1);
        Due.is("15 of 16", x.flow(0, 4), 0);
        Due.is("16 of 16", x.flow(1, 4), 1);
        Due.is("all but that one", x.flow(2, 4), 63);
    }

    private static void samples() {
        Sentence.of(TERMS, "sample: EACH 1 .. 999,");
        for (int each : new int[] {1, 2, 998, 999}) {
            eachIs(Fill.held("sample " + each + " 500 0;stage 999 99 1;"), each);
        }
        refusedNumbers("sample ", " 1 1;", 1, 999);
        number("MIDDLE 1 .. 500,", LINK + "sample 1 ", " 1;", 1, 500, x -> -x.feedback(0));
        Sentence.of(TERMS, "WEIGHT 0 .. 4 (20, 26, 2).");
        for (int weight = 0; weight <= 4; weight++) {
            LosslessFabric x = Fill.held("sample 999 300 " + weight + ";stage 999 99 1;", 7);
            Due.is("7 less 300, and so often 7", x.feedback(0), 7 - 300 + 7 * weight);
        }
        refusedNumbers("sample 1 1 ", ";", 0, 4);
        eachIs(Fill.held("stage 999 99 1;"), 20);
        Due.is("MIDDLE is 26", Due.fabric(LINK).feedback(0), -26);
        Due.is("WEIGHT is 2", Fill.held("stage 999 99 1;", 7).feedback(0), 7 - 26 + 7 * 2);
    }

    private static void eachIs(LosslessFabric x, int each) {
        Fill.come(x, each - 1);
        Due.is("no SAMPLE by one cell less", x.link(0, 10), 0);
        Due.is("counted", x.link(0, 13), each - 1);
        Fill.come(x, 1);
        Due.is("a SAMPLE", x.link(0, 10), 1);
        Due.is("counted anew", x.link(0, 13), 0);
    }

    private static void stages() {
        Sentence.of(TERMS, "stage: CELLS 1 .. 999,");
        for (int cells : new int[] {1, 2, 998, 999}) {
            cellsAre(Due.fabric(DELIVERED + "stage " + cells + " 99 1;"), cells);
        }
        refusedNumbers("stage ", " 1 1;", 1, 999);
        Sentence.of(TERMS, "TICKS 1 .. 99,");
        for (int ticks : new int[] {1, 2, 98, 99}) {
            ticksAre(Due.fabric(BOTH + "stage 999 " + ticks + " 1;"), ticks);
        }
        refusedNumbers("stage 1 ", " 1;", 1, 99);
        Sentence.of(TERMS, "MORE 1 .. 99 (50, 10, 4).");
        for (int more : new int[] {1, 2, 98, 99}) {
            LosslessFabric x = Due.fabric(BOTH + "stage 999 1 " + more + ";");
            x.tick(6);
            Due.is("TARGET behind six STAGES", x.flow(0, 1), 1 + more);
        }
        refusedNumbers("stage 1 1 ", ";", 1, 99);
        cellsAre(Due.fabric(DELIVERED), 50);
        ticksAre(Due.fabric(BOTH), 10);
        LosslessFabric y = Due.fabric(BOTH);
        y.tick(50);
        Due.is("TARGET behind five STAGES", y.flow(0, 1), 1);
        y.tick(10);
        Due.is("MORE is 4", y.flow(0, 1), 5);
    }

    private static void cellsAre(LosslessFabric x, int cells) {
        Fill.come(x, cells - 1);
        Due.is("no STAGE by one cell less", x.flow(Fill.HELD, 2), 0);
        Due.is("counted", x.flow(Fill.HELD, 10), cells - 1);
        Fill.come(x, 1);
        Due.is("STAGE 0", x.flow(Fill.HELD, 2), 1);
        Due.is("counted anew", x.flow(Fill.HELD, 10), 0);
    }

    private static void ticksAre(LosslessFabric x, int ticks) {
        for (int t = 1; t < ticks; t++) {
            x.tick(1);
        }
        Due.is("no STAGE by one TICK less", x.flow(0, 3), 0);
        Due.is("counted", x.flow(0, 11), ticks - 1);
        x.tick(1);
        Due.is("STAGE 1", x.flow(0, 3), 1);
        Due.is("counted anew", x.flow(0, 11), 0);
    }

    private static void offAndSeed() {
        Sentence.of(TERMS, "off: a FLOW is OFF (they are ON).");
        LosslessFabric x = Due.fabric(flows(8));
        Due.is("all are ON", x.count(7), 8);
        x = Due.fabric(flows(8) + "off a;off h;");
        for (int f = 0; f < 8; f++) {
            Due.is("flow(" + f + ", 7)", x.flow(f, 7), f == 0 || f == 7 ? 0 : 1);
        }
        Sentence.of(TERMS, "seed: 0 .. 99999 (0).");
        String text = "link a 64 0 9 1 9;flow f 16 a;flow g 48 a;flow h 80 a;";
        for (int seed : new int[] {0, 1, 99998, 99999}) {
            seedIs(Due.fabric(text + "seed " + seed + ";"), seed);
        }
        seedIs(Due.fabric(text), 0);
        LosslessFabric y = Due.fabric(text + "seed 5;");
        for (int i = 0; i < 2; i++) {
            Due.text(y, text);
            Due.is("the seed of a text ahead is gone", y.chance(-1, 40, 50, 0), Due.fabric(text).chance(0, 40, 50, 0));
            Due.is("that one would be another", y.chance(5, 40, 50, 0) != y.chance(0, 40, 50, 0), true);
        }
        seedIs(Due.fabric(text + "seed 000000000000000099999;"), 99999);
        refusedNumbers("seed ", ";", 0, 99999);
    }

    private static void seedIs(LosslessFabric x, int seed) {
        boolean another = false;
        for (int n = 1; n <= 40; n++) {
            Due.is("chance(-1, " + n + ", 50, 0)", x.chance(-1, n, 50, 0), x.chance(seed, n, 50, 0));
            another |= x.chance(-1, n, 50, 0) != x.chance(seed + 1, n, 50, 0);
        }
        Due.is("not that of the next seed", another, true);
    }

    private static void tenLinks() {
        Sentence.of(TERMS, "link, at most 10: name,");
        for (int n = 0; n <= 10; n++) {
            Due.is(n + " links", Due.fabric(links(n)).count(0), n);
        }
        Due.fault(links(10) + "link k 1 0 2 1 5;", 2, 170);
        Sentence.of(TERMS, "numbered from 0 on as they come.");
        LosslessFabric x = Due.fabric("link zz 1 0 2 1 5;link m 2 0 2 1 5;link aa 3 0 2 1 5;");
        Due.is("zz", x.named(0, Due.letters("zz")), 0);
        Due.is("m", x.named(0, Due.letters("m")), 1);
        Due.is("aa", x.named(0, Due.letters("aa")), 2);
        Due.is("CAP of 0", x.link(0, 0), 1);
        Due.is("CAP of 2", x.link(2, 0), 3);
        Due.is("the tenth", Due.fabric(links(10)).named(0, Due.letters("j")), 9);
    }

    private static void eightFlows() {
        Sentence.of(TERMS, "flow, at most 8: name,");
        for (int n = 0; n <= 8; n++) {
            Due.is(n + " flows", Due.fabric(flows(n)).count(1), n);
        }
        Due.fault(flows(8) + "flow i 1 a;", 2, 17 + 8 * 11);
        Sentence.of(TERMS, "numbered likewise;");
        LosslessFabric x = Due.fabric(LINK + "flow zz 1 a;flow m 2 a;flow aa 3 a;");
        Due.is("zz", x.named(1, Due.letters("zz")), 0);
        Due.is("aa", x.named(1, Due.letters("aa")), 2);
        Due.is("RATE of 2", x.flow(2, 0), 3);
        Due.is("the eighth", Due.fabric(flows(8)).named(1, Due.letters("h")), 7);
    }

    private static void fiveLinksOfAFlow() {
        Sentence.of(TERMS, "its LINKS, 1 .. 5,");
        String path = "a b c d e f";
        Due.fault(links(6) + "flow f 1;", 1, 102 + 8);
        for (int n = 1; n <= 5; n++) {
            LosslessFabric x = Due.fabric(links(6) + "flow f 1 " + path.substring(0, 2 * n - 1) + ";");
            Due.is("LINKS", x.flow(0, 9), n);
            Due.is("the last one", x.path(0, n - 1), n - 1);
            Due.is("behind it", x.path(0, n), -1);
        }
        Due.fault(links(6) + "flow f 1 " + path + ";", 2, 102 + 19);
    }

    private static void noneTwice() {
        Sentence.of(TERMS, "none twice;");
        Due.fault(links(5) + "flow f 1 a a;", 3, 85 + 11);
        Due.fault(links(5) + "flow f 1 a b a;", 3, 85 + 13);
        Due.fault(links(5) + "flow f 1 a b c d a;", 3, 85 + 17);
        Due.fault(links(5) + "flow f 1 a b c d d;", 3, 85 + 17);
        lines(links(5) + "flow f 1 a b c d e;flow g 1 e d c b a;flow h 1 a b c d e;", 8);
    }

    private static void kindsOfNames() {
        Sentence.of(TERMS, "LINKS and FLOWS have names of their kind.");
        LosslessFabric x = Due.fabric(links(2) + "flow b 1 a;flow a 2 b;off a;");
        Due.is("LINK a", x.named(0, Due.letters("a")), 0);
        Due.is("FLOW a", x.named(1, Due.letters("a")), 1);
        Due.is("FLOW b goes by LINK a", x.path(0, 0), 0);
        Due.is("FLOW a is OFF", x.flow(1, 7), 0);
        Due.fault(LINK + "flow b 1 b;", 4, 26);
        Due.fault(LINK + "flow b 1 a;off a;", 4, 32);
    }

    /** Each two faults, one behind the other: the first is told, whatever their numbers. */
    private static void firstAlongTheText() {
        Sentence.of(TERMS, "FAULTS, the first along the text (of one place the least), with its place:");
        String[] ahead = {"", "link x ", LINK, ""};
        String[] faults = {"#", "65 ", "link a ", "off y "};
        int[] at = {0, 7, 22, 4};
        String[] behind = {"#", "seed 100000;", "sample 1 1 1;sample", "off z;"};
        for (int i = 0; i < 4; i++) {
            for (String next : behind) {
                Due.fault(ahead[i] + faults[i] + next, i + 1, at[i]);
            }
        }
        // one place, several faults
        String six = links(10) + "flow f 1 a b c d e ";
        Due.fault(six + "a;", 2, 189);
        Due.fault(six + "zz;", 2, 189);
        Due.fault(six + "abcdefg;", 1, 189);
        Due.fault(six + "link;", 1, 189);
        Due.fault(six + "7;", 1, 189);
        Due.fault(six + "#;", 1, 189);
        Due.fault(six, 1, 189);
        Due.fault("off abcdefg;", 1, 4);
    }

    private static void tokenFaults() {
        Sentence.of(TERMS, "1 a TOKEN that is none (a word of more than 6 letters that isn't of the language, too)");
        for (String none : new String[] {"#", "A", "abcdefg", "samples", "linklink", "-", ".", "\u0000", "\u007f", "\u0080", "\u00ff"}) {
            Due.fault(none, 1, 0);
            Due.fault("seed 1;" + none, 1, 7);
            Due.fault("link " + none, 1, 5);
            Due.fault("seed " + none, 1, 5);
            Due.fault("seed 1 " + none, 1, 7);
            Due.fault(LINK + "flow f 1 " + none, 1, 26);
        }
        Sentence.of(TERMS, "or can't stand there (the length, if more must come).");
        Due.fault("link", 1, 4);
        Due.fault("link  \n", 1, 7);
        Due.fault("link a 1 0 2 1 5  ", 1, 18);
        Due.fault(LINK + "flow f 1 a ", 1, 28);
        Due.fault("seed 1 ", 1, 7);
        Due.fault("a 1;", 1, 0);
        Due.fault("1;", 1, 0);
        Due.fault("seed seed;", 1, 5);
    }

    private static void tooMuch() {
        Sentence.of(TERMS, "2 too much (at it): a number beyond what is said,");
        Due.fault("link a 0 0 2 1 5;", 2, 7);
        Due.fault("link a 65 0 2 1 5;", 2, 7);
        Due.fault("link a   65 0 2 1 5;", 2, 9);
        Sentence.of(TERMS, "an eleventh link, a ninth flow (at the word of the LINE),");
        Due.fault(links(10) + "link", 2, 170);
        Due.fault(links(10) + " \nlink a", 2, 172);
        Due.fault(links(10) + "link #", 2, 170);
        Due.fault(flows(8) + "flow", 2, 105);
        Due.fault(flows(8) + " flow a 0", 2, 106);
        lines(links(10) + "seed 1;", 11);
        lines(flows(8) + "seed 1;", 10);
        Sentence.of(TERMS, "a sixth LINK of a FLOW (at W).");
        Due.fault(links(6) + "flow f 1 a b c d e f", 2, 121);
        Due.fault(links(6) + "flow f 1 a b c d e  f;", 2, 122);
    }

    private static void toldAlready() {
        Sentence.of(TERMS, "3 told already: a name of its kind (at W),");
        Due.fault(links(10).substring(17) + "link j", 3, 153 + 5);
        Due.fault(LINK + "link a", 3, 22);
        Due.fault(LINK + "link aa 1 0 2 1 5;link aa", 3, 17 + 18 + 5);
        Due.fault(BOTH + "flow f", 3, 33);
        Sentence.of(TERMS, "a LINK of the FLOW (at W),");
        Due.fault(LINK + "flow f 1 a a", 3, 28);
        Sentence.of(TERMS, "sample, stage, seed (at the word),");
        Due.fault("sample 1 1 1;sample", 3, 13);
        Due.fault("stage 1 1 1;stage", 3, 12);
        Due.fault("seed 1;seed", 3, 7);
        Due.fault("seed 1; \n seed 1;", 3, 10);
        Due.fault("sample 1 1 1;stage 1 1 1;seed 1;stage 1 1 1;", 3, 32);
        Sentence.of(TERMS, "off of a FLOW (at W).");
        Due.fault(BOTH + "off f;off f", 3, 38);
        Due.fault(BOTH + "flow g 1 a;off g;off f;off g;", 3, 28 + 11 + 12 + 4);
    }

    private static void notToldAhead() {
        Sentence.of(TERMS, "4 a LINK, a FLOW that isn't told ahead (at W).");
        Due.fault("flow f 1 a;" + LINK, 4, 9);
        Due.fault(LINK + "flow f 1 a b;link b 1 0 2 1 5;", 4, 28);
        Due.fault("off f", 4, 4);
        Due.fault(LINK + "off f;flow f 1 a;", 4, 21);
        Due.fault(LINK + "flow f 1 f;", 4, 26);
        Due.fault("link ab 1 0 2 1 5;flow f 1 a;", 4, 27);
        Due.fault(LINK + "flow f 1 ab;", 4, 26);
    }

    private static void newObject() {
        Sentence.of(1, "No LINKS; an empty TAPE.");
        LosslessFabric x = new LosslessFabric();
        for (int what = 0; what <= 10; what++) {
            Due.is("count(" + what + ")", x.count(what), 0);
        }
        Due.is("link(0, 0)", Due.thrownByLink(x, 0, 0), 1);
        Due.is("text(1)", x.text(1), -2);
        Due.is("fault(0)", x.fault(0), 0);
        Due.is("fault(1)", x.fault(1), -1);
        Due.is("undo()", x.undo(), -1);
        Due.is("back()", x.back(), -1);
        Due.is("text(0)", x.text(0), 0);
    }

    private static void feed() {
        Sentence.of(2, "Twenty bytes come behind the TAPE, four of each number, the highest first: how many it has;");
        LosslessFabric x = new LosslessFabric();
        Due.is("feed", x.feed(0x73656564, 0x20313233, 0x34353b20, 0x0a202020, 0x20202020), 20);
        Due.is("\"seed 12345;\"", x.text(20), 1);
        Due.is("feed", x.feed(0x0a0a0a0a, 0x20202020, 0x20202073, 0x65656420, 0x39393939), 20);
        Due.is("feed", x.feed(0x393b2020, 0x20202020, 0x20202020, 0x20202020, 0x202020ff), 40);
        Due.is("\"seed 99999;\", and at the end 255", x.text(40), -1);
        Due.is("fault(0)", x.fault(0), 1);
        Due.is("the last byte", x.fault(1), 39);
        Due.is("feed", x.feed(0x80000000, 0, 0, 0, -1), 20);
        Due.is("128", x.text(20), -1);
        Due.is("the first byte", x.fault(1), 0);
        Sentence.of(2, "NONE, and none come, if it would have more than 700.");
        LosslessFabric y = new LosslessFabric();
        for (int i = 1; i <= 35; i++) {
            Due.is("feed " + i, y.feed(0x20202020, 0x20202020, 0x20202020, 0x20202020, 0x20202020), 20 * i);
        }
        Due.is("feed 36", y.feed(0x23232323, 0x23232323, 0x23232323, 0x23232323, 0x23232323), -1);
        Due.is("feed 37", y.feed(0x23232323, 0x23232323, 0x23232323, 0x23232323, 0x23232323), -1);
        Due.is("bytes", y.count(10), 700);
        Due.is("no # came", y.text(700), 0);
        Due.is("feed on the empty TAPE", y.feed(0, 0, 0, 0, 0), 20);
    }

    private static void text() {
        Sentence.of(3, "The TAPE's first n bytes (it is empty then) are the TEXT");
        for (int n = 0; n <= 20; n++) {
            LosslessFabric x = new LosslessFabric();
            Due.feed(x, "seed 1;stage 1 1 1;");
            boolean whole = n == 0 || n == 7 || n == 19 || n == 20;
            Due.is("text(" + n + ")", x.text(n), whole ? n == 0 ? 0 : n == 7 ? 1 : 2 : -1);
            Due.is("empty then", x.count(10), 0);
        }
        fullTape("seed        1234567;", -1, 2692);
        fullTape("seed          12345;", 1, -1);
        fullTape("seed           12345", -1, 1700);
        fullTape("seed 1;         seed", -1, 3696);
        Sentence.of(3, "(TICK 0, empty QUEUES, no IMAGE, nothing to undo): how many LINES;");
        LosslessFabric y = Rich.fabric();
        Due.is("text(0)", y.text(0), 0);
        Due.same("as new", Shown.all(y), Shown.all(new LosslessFabric()));
        Due.is("no IMAGE", y.back(), -1);
        Due.is("nothing to undo", y.undo(), -1);
        LosslessFabric z = Rich.fabric();
        // looks ahead leave nothing for the next text
        Shown.links(z);
        z.text(0);
        Due.is("the same text", Due.text(z, Rich.TEXT), 10);
        Due.same("as told to a new one", Shown.all(z), Shown.all(Due.fabric(Rich.TEXT)));
        Due.is("TICK 0", z.count(2), 0);
        for (int l = 0; l < 3; l++) {
            Due.is("empty QUEUE", z.link(l, 5), 0);
        }
    }

    /** 680 blanks and twenty signs: what text(700) answers, and the fault and its place. */
    private static void fullTape(String twenty, int lines, int fault) {
        LosslessFabric x = new LosslessFabric();
        for (int i = 0; i < 34; i++) {
            x.feed(0x20202020, 0x20202020, 0x20202020, 0x20202020, 0x20202020);
        }
        Due.feed(x, twenty);
        Due.is("text(701)", x.text(701), -2);
        Due.is("text(700)", x.text(700), lines);
        Due.is("fault and place", x.fault(0) * 1000 + x.fault(1), fault);
    }

    private static void textFaults() {
        Sentence.of(3, "NONE with a FAULT, all else stays;");
        String[] faulty = {"#", "link a 65", LINK + "link a", "off f", "link x 1 0 2 1 5;flow y 5 x;seed 9;sample 1 1 1;stage 1 1 1;off z;"};
        for (String text : faulty) {
            LosslessFabric x = Rich.fabric();
            LosslessFabric y = Rich.fabric(text);
            Due.is("text(" + text + ")", y.text(text.length()), -1);
            Due.is("empty then", y.count(10), 0);
            Due.same("all else", Shown.fabric(y), Shown.fabric(x));
            Due.is("what can be undone", y.count(9), x.count(9));
            Due.is("undo()", y.undo(), x.undo());
            Due.is("the IMAGE", y.back(), Rich.IMAGE_TICK);
            x.back();
            Due.same("the IMAGE", Shown.fabric(y), Shown.fabric(x));
        }
        Sentence.of(3, "-2, and the TAPE stays: there are not so many, n is below 0.");
        for (int n : new int[] {-1, 41, 701, Integer.MIN_VALUE, Integer.MAX_VALUE}) {
            Shown.refused("text(" + n + ")", Rich::fabric, x -> x.text(n), -2);
        }
        Due.is("text(40)", Rich.fabric().text(40), 2);
        Shown.refused("text(1) of an empty TAPE", () -> Rich.fabric(""), x -> x.text(1), -2);
    }

    private static void fault() {
        Sentence.of(4, "Of the latest text() that was not -2, what 0: its FAULT (0), 1: its place (NONE without).");
        LosslessFabric x = new LosslessFabric();
        Due.is("fault(0)", x.fault(0), 0);
        Due.is("fault(1)", x.fault(1), -1);
        Due.text(x, "link a 65");
        Due.is("fault(0)", x.fault(0), 2);
        Due.is("fault(1)", x.fault(1), 7);
        x.text(-1);
        x.text(1);
        Due.is("fault(0) behind -2", x.fault(0), 2);
        Due.is("fault(1) behind -2", x.fault(1), 7);
        Due.text(x, "#");
        Due.is("fault(0)", x.fault(0), 1);
        Due.is("place 0", x.fault(1), 0);
        Due.text(x, "");
        Due.is("fault(0) of a text without one", x.fault(0), 0);
        Due.is("fault(1) of a text without one", x.fault(1), -1);
        Sentence.of(4, "NONE for another what.");
        for (int what : new int[] {-1, 2, Integer.MIN_VALUE, Integer.MAX_VALUE}) {
            Shown.refused("fault(" + what + ")", Rich::fabric, y -> y.fault(what), -1);
        }
    }

    private static void named() {
        Sentence.of(5, "A LINK (kind 0), a FLOW (1) by its letters, 5 bits each (a is 1;");
        LosslessFabric x = Due.fabric("link a 1 0 2 1 5;link z 1 0 2 1 5;link abcdef 1 0 2 1 5;link zzzzzz 1 0 2 1 5;flow z 1 a;flow aaaaaa 1 a;");
        Due.is("LINK a", x.named(0, 1 << 25), 0);
        Due.is("LINK z", x.named(0, 26 << 25), 1);
        Due.is("FLOW z", x.named(1, 26 << 25), 0);
        Due.is("FLOW a", x.named(1, 1 << 25), -1);
        Sentence.of(5, "the first one highest of six, 0 behind the last one): its number;");
        Due.is("abcdef", x.named(0, 1 << 25 | 2 << 20 | 3 << 15 | 4 << 10 | 5 << 5 | 6), 2);
        Due.is("zzzzzz", x.named(0, 26 << 25 | 26 << 20 | 26 << 15 | 26 << 10 | 26 << 5 | 26), 3);
        Due.is("aaaaaa", x.named(1, 1 << 25 | 1 << 20 | 1 << 15 | 1 << 10 | 1 << 5 | 1), 1);
        Due.is("the first one lowest", x.named(0, 6 << 25 | 5 << 20 | 4 << 15 | 3 << 10 | 2 << 5 | 1), -1);
        Due.is("0 ahead of the first one", x.named(0, 1), -1);
        Due.is("0 ahead of the first one", x.named(0, 1 << 20), -1);
        Sentence.of(5, "NONE: there is none such, for another kind.");
        int a = Due.letters("a");
        for (int letters : new int[] {0, -1, a - 1, a + 1, a | 1 << 30, a | 1 << 31, Integer.MIN_VALUE, Integer.MAX_VALUE, Due.letters("q")}) {
            Shown.refused("named(0, " + letters + ")", Rich::fabric, y -> y.named(0, letters), -1);
            Due.is("named(1, " + letters + ")", Rich.fabric().named(1, letters), -1);
        }
        for (int kind : new int[] {-1, 2, Integer.MIN_VALUE, Integer.MAX_VALUE}) {
            Shown.refused("named(" + kind + ", a)", Rich::fabric, y -> y.named(kind, a), -1);
        }
        Due.is("of a new one", new LosslessFabric().named(0, 0), -1);
        Due.is("of a new one", new LosslessFabric().named(1, 0), -1);
        // names of a text ahead are gone
        Due.text(x, "");
        Due.is("LINK a is gone", x.named(0, a), -1);
        Due.is("FLOW z is gone", x.named(1, 26 << 25), -1);
    }
}
