/** The program that README.md shows; ReadmeTest compares both, and what it prints. */
public final class Example {
    public static void main(String[] args) {
        LosslessFabric x = new LosslessFabric();
        String text = "link a 3 0 5 4 20; link b 2 0 4 2 20; link c 3 1 5 4 20;"
            + "flow f 48 a b; flow g 48 b c; flow h 48 c a;";
        feed(x, text);
        System.out.println("lines: " + x.text(text.length()));
        System.out.println("links and flows: " + x.count(0) + " and " + x.count(1));
        System.out.println("flow g has number " + x.named(1, 7 << 25));
        System.out.println("fair for flow h: " + x.fair(2, false) + "/" + x.fair(2, true));

        System.out.println("the tick: " + x.tick(3));
        for (int link = 0; link < x.count(0); link++) {
            System.out.println("queue of link " + link + ": " + x.link(link, 5) + ", asked pause: " + x.link(link, 6));
        }
        System.out.println("flow f delivers in 20 ticks: " + x.flows(0, 20, 1));
        System.out.println("ticks till it stalls: " + x.stalls());

        System.out.println("flow h is on: " + x.turn(2));
        System.out.println("flow f delivers in 20 ticks: " + x.flows(0, 20, 1));
        System.out.println("ticks till it stalls: " + x.stalls());
        System.out.println("left to undo: " + x.undo());
        System.out.println("flow h is on: " + x.flow(2, 7));

        System.out.println("the tick: " + x.tick(6));
        System.out.println("a cycle: " + x.cycle(0) + " " + x.cycle(1) + " " + x.cycle(2) + ", behind it: " + x.cycle(3));
        System.out.println("there is no flow 3: " + (x.rate(3, 16) == LosslessFabric.NONE));
        try {
            x.link(3, 5);
        } catch (IndexOutOfBoundsException e) {
            System.out.println("there is no link 3");
        }

        feed(x, "link a 65 0 5 4 20;");
        System.out.println("a text with a fault: " + x.text(19));
        System.out.println("fault " + x.fault(0) + " at place " + x.fault(1));
        System.out.println("links still: " + x.count(0));
    }

    /** Twenty bytes a call, the first one highest; blanks fill up the last call. */
    private static void feed(LosslessFabric x, String text) {
        int[] five = new int[5];
        for (int at = 0; at < text.length(); at += 20) {
            for (int i = 0; i < 20; i++) {
                char sign = at + i < text.length() ? text.charAt(at + i) : ' ';
                five[i / 4] = five[i / 4] << 8 | sign;
            }
            x.feed(five[0], five[1], five[2], five[3], five[4]);
        }
    }
}
