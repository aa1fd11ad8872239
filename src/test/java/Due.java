import java.nio.charset.StandardCharsets;

/** What the tests share: counting answers that are not due, and telling a fabric a text. */
final class Due {
    private static int right = 0;
    private static int wrong = 0;
    /** Told ahead of each wrong answer: what the test at hand is about. */
    private static String about = "";

    private Due() {
    }

    static void is(String call, long got, long want) {
        if (got == want) {
            right++;
            return;
        }
        wrong++;
        if (wrong <= 40) {
            System.out.println(about + call + " answered " + got + ", due is " + want);
        }
    }

    static void is(String call, boolean got, boolean want) {
        is(call, got ? 1 : 0, want ? 1 : 0);
    }

    /** Two long answers, told where they differ first. */
    static void same(String call, String got, String want) {
        int at = 0;
        while (at < got.length() && at < want.length() && got.charAt(at) == want.charAt(at)) {
            at++;
        }
        boolean equal = got.equals(want);
        is(equal ? call : call + " differs at \"" + got.substring(Math.max(0, at - 30), Math.min(got.length(), at + 20)) + "\"",
            equal, true);
    }

    static void about(String words) {
        about = words;
    }

    static int answers() {
        return right + wrong;
    }

    /** Feeds the bytes of a text, blanks behind it, without taking it as the text. */
    static void feed(LosslessFabric x, String text) {
        byte[] bytes = text.getBytes(StandardCharsets.ISO_8859_1);
        for (int i = 0; i < bytes.length; i += 20) {
            int[] five = new int[5];
            for (int k = 0; k < 20; k++) {
                int sign = i + k < bytes.length ? bytes[i + k] & 255 : 32;
                five[k / 4] = five[k / 4] << 8 | sign;
            }
            x.feed(five[0], five[1], five[2], five[3], five[4]);
        }
    }

    static int text(LosslessFabric x, String text) {
        feed(x, text);
        return x.text(text.length());
    }

    /** A fabric of a text that has no fault. */
    static LosslessFabric fabric(String text) {
        LosslessFabric x = new LosslessFabric();
        int lines = text(x, text);
        is("text of \"" + text + "\" has no fault", lines >= 0 && x.fault(0) == 0, true);
        return x;
    }

    static void fault(String text, int code, int place) {
        LosslessFabric x = new LosslessFabric();
        is("text \"" + text + "\"", text(x, text), LosslessFabric.NONE);
        is("fault(0) of \"" + text + "\"", x.fault(0), code);
        is("fault(1) of \"" + text + "\"", x.fault(1), place);
    }

    /** 0: it answers, 1: IndexOutOfBoundsException, 2: NoSuchElementException, 3: another. */
    static int thrownByLink(LosslessFabric x, int link, int what) {
        try {
            x.link(link, what);
            return 0;
        } catch (RuntimeException e) {
            if (e.getClass() == IndexOutOfBoundsException.class) {
                return 1;
            }
            return e.getClass() == java.util.NoSuchElementException.class ? 2 : 3;
        }
    }

    static int letters(String name) {
        int bits = 0;
        for (int i = 0; i < 6; i++) {
            bits = bits * 32 + (i < name.length() ? name.charAt(i) - 96 : 0);
        }
        return bits;
    }

    static void end() {
        System.out.println(right + " answers as due, " + wrong + " not");
        if (wrong > 0) {
            System.exit(1);
        }
    }
}
