/** Promises 6 to 16: ticks, the calls that change a fabric, and what is told of links and flows. */
public final class TickTest {
    /** No samples and no stages within a few ticks. */
    private static final String CALM = "sample 999 500 0;stage 999 99 1;";

    public static void main(String[] args) {
        tickBounds();
        credit();
        turnsOfFlows();
        queuesAndDelivery();
        pauseWithDelay();
        askedBetweenBounds();
        losses();
        samples();
        notices();
        heldNotices();
        noticesInOrder();
        recovery();
        stagesBoth();
        targetHeld();
        rate();
        turn();
        boundsOfLinks();
        size();
        linkAnswers();
        queueFlowPath();
        feedbackAndNotice();
        Due.end();
    }

    private static LosslessFabric calm(String text) {
        return Due.fabric(CALM + text);
    }

    private static void tickBounds() {
        LosslessFabric x = calm("link a 1 0 9 1 9;flow f 16 a;");
        Due.is("tick(0)", x.tick(0), -1);
        Due.is("tick(-1)", x.tick(-1), -1);
        Due.is("tick(51)", x.tick(51), -1);
        Due.is("tick(most)", x.tick(Integer.MAX_VALUE), -1);
        Due.is("nothing went by", x.count(2), 0);
        Due.is("nothing to undo", x.count(9), 0);
        Due.is("tick(1)", x.tick(1), 1);
        for (int i = 1; i <= 199; i++) {
            Due.is("tick(50)", x.tick(50), 1 + 50 * i);
        }
        Due.is("9951 and 49", x.tick(49), -2);
        Due.is("9951 and 48", x.tick(48), 9999);
        LosslessFabric y = calm("link a 1 0 9 1 9;flow f 16 a;");
        for (int i = 1; i <= 199; i++) {
            y.tick(50);
        }
        Due.is("9950", y.count(2), 9950);
        Due.is("tick(50) is beyond", y.tick(50), -2);
        Due.is("tick(51) is no such n first", y.tick(51), -1);
        Due.is("tick(0) is no such n first", y.tick(0), -1);
        Due.is("refused", y.count(2), 9950);
        Due.is("refused", y.count(9), 20);
        Due.is("sent", y.count(3), 9950);
        Due.is("tick(49)", y.tick(49), 9999);
        Due.is("tick(1)", y.tick(1), -2);
        Due.is("a look ahead goes on", y.flows(0, 300, 2), 300);
        Due.is("one TICK of a call together", y.undo(), 19);
        Due.is("undone", y.count(2), 9950);
        Due.is("sent", y.count(3), 9950);
    }

    private static void credit() {
        LosslessFabric x = calm("link a 1 0 9 1 9;flow f 10 a;");
        int[] credits = {10, 4, 14, 8, 2, 12, 6, 0};
        int[] sent = {0, 1, 1, 2, 3, 3, 4, 5};
        for (int i = 0; i < credits.length; i++) {
            x.tick(1);
            Due.is("credit " + i, x.flow(0, 8), credits[i]);
            Due.is("sent " + i, x.flow(0, 4), sent[i]);
            Due.is("delivered " + i, x.flow(0, 5), sent[i]);
            Due.is("carried " + i, x.link(0, 12), i > 0 ? sent[i] - sent[i - 1] : 0);
        }
        LosslessFabric y = calm("link a 1 0 9 1 9;link b 64 0 9 1 9;flow f 1024 a;flow g 1024 b;flow h 1000 a;");
        y.tick(1);
        Due.is("1024 less one cell", y.flow(0, 8), 1008);
        Due.is("64 cells", y.flow(1, 4), 64);
        Due.is("all gone", y.flow(1, 8), 0);
        Due.is("not at its turn", y.flow(2, 8), 1000);
        y.tick(1);
        Due.is("1024 at most, less one cell", y.flow(0, 8), 1008);
        Due.is("1024 at most", y.flow(2, 8), 1024);
    }

    private static void turnsOfFlows() {
        // f has 1 cell, g 9, h 9
        String flows = "flow f 16 a;flow g 144 a;flow h 144 a;";
        int[][] due = {{1, 0, 0}, {1, 1, 0}, {1, 1, 1}, {1, 2, 1}, {1, 2, 2}, {1, 3, 2}};
        for (int cap = 1; cap <= 6; cap++) {
            LosslessFabric x = calm("link a " + cap + " 0 9 1 9;" + flows);
            x.tick(1);
            for (int f = 0; f < 3; f++) {
                Due.is("cap " + cap + " flow " + f, x.flow(f, 4), due[cap - 1][f]);
            }
            Due.is("carried", x.link(0, 12), cap);
        }
        LosslessFabric x = calm("link a 64 0 9 1 9;" + flows);
        x.tick(1);
        Due.is("till none has any", x.link(0, 12), 19);
        Due.is("h has given all", x.flow(2, 4), 9);
        // 5, 2, 7, 3 cells: rounds of 4, 4, 3, 2 and what is left of 15
        LosslessFabric y = calm("link a 15 0 9 1 9;flow f 80 a;flow g 32 a;flow h 112 a;flow k 48 a;");
        y.tick(1);
        int[] given = {5, 2, 5, 3};
        for (int f = 0; f < 4; f++) {
            Due.is("flow " + f, y.flow(f, 4), given[f]);
        }
        // queues take turns with senders
        LosslessFabric z = calm("link a 2 0 9 1 99;link b 3 0 9 1 99;flow f 160 b;flow g 32 a b;");
        z.tick(2);
        Due.is("f gives two more", z.flow(0, 4), 3 + 2);
        Due.is("g gives one", z.flow(1, 5), 1);
        Due.is("g has one left, two come", z.queue(0, 1), 3);
    }

    private static void queuesAndDelivery() {
        LosslessFabric x = calm("link a 2 0 99 1 99;link b 1 0 99 1 99;link c 1 0 99 1 99;flow f 32 b a c;");
        x.tick(1);
        Due.is("b", x.queue(1, 0), 1);
        Due.is("a", x.queue(0, 0), 0);
        Due.is("credit", x.flow(0, 8), 16);
        x.tick(1);
        Due.is("b: as it was at first", x.queue(1, 0), 1);
        Due.is("a", x.queue(0, 0), 1);
        Due.is("none yet", x.flow(0, 5), 0);
        x.tick(1);
        Due.is("delivered", x.flow(0, 5), 1);
        Due.is("in no queue", x.queue(2, 0), 0);
        Due.is("in no queue", x.link(2, 5), 0);
        Due.is("but carried", x.link(2, 12), 1);
        Due.is("sent", x.flow(0, 4), 3);
        Due.is("on its way", x.onWay(0), 2);
        Due.is("no sample of what is delivered", x.link(2, 13), 0);
        Due.is("counted", x.link(1, 13), 3);
        x.turn(0);
        x.tick(1);
        Due.is("an OFF flow's cells go on", x.flow(0, 5), 2);
        Due.is("an OFF flow's credit is carried", x.flow(0, 4), 4);
        Due.is("and is no more", x.flow(0, 8), 32);
        x.tick(2);
        Due.is("till none is left", x.flow(0, 8), 0);
        x.tick(3);
        Due.is("sent in all", x.flow(0, 4), 6);
        Due.is("delivered in all", x.flow(0, 5), 6);
        Due.is("none on the way", x.onWay(0), 0);
    }

    private static void pauseWithDelay() {
        LosslessFabric x = calm("link a 2 2 3 1 99;link b 1 0 99 1 99;flow f 32 a b;");
        int[] queue = {2, 3, 4, 5, 4, 3, 2, 1, 0, 0, 2, 3};
        int[] asked = {0, 1, 1, 1, 1, 1, 1, 0, 0, 0, 0, 1};
        for (int t = 1; t <= 12; t++) {
            Due.is("paused in " + t, x.link(0, 7), t >= 4 && asked[t - 4] == 1 ? 1 : 0);
            x.tick(1);
            Due.is("queue " + t, x.link(0, 5), queue[t - 1]);
            Due.is("asked " + t, x.link(0, 6), asked[t - 1]);
            Due.is("carried " + t, x.link(0, 12), t >= 5 && t <= 10 ? 0 : 2);
            Due.is("how many asked " + t, x.count(8), asked[t - 1]);
        }
        Due.is("greatest", x.link(0, 9), 5);
        for (int delay = 0; delay <= 4; delay++) {
            LosslessFabric y = calm("link a 6 " + delay + " 1 0 99;link b 1 0 99 1 99;flow f 999 a b;");
            for (int t = 1; t <= 6; t++) {
                Due.is("delay " + delay + " paused in " + t, y.link(0, 7), t >= delay + 2 ? 1 : 0);
                y.tick(1);
                Due.is("delay " + delay + " carried in " + t, y.link(0, 12), t >= delay + 2 ? 0 : 6);
            }
        }
    }

    private static void askedBetweenBounds() {
        LosslessFabric x = calm("link a 4 0 4 2 99;link b 1 0 99 1 99;flow f 64 a b;");
        x.tick(1);
        Due.is("XOFF or more", x.link(0, 6), 1);
        x.tick(1);
        Due.is("3 is as it was", x.link(0, 6), 1);
        Due.is("3", x.link(0, 5), 3);
        x.tick(1);
        Due.is("XON or less", x.link(0, 6), 0);
        Due.is("2", x.link(0, 5), 2);
        Due.is("bounds alone ask nothing", x.bounds(0, 2, 1), true);
        Due.is("as it asked", x.link(0, 6), 0);
        x.turn(0);
        x.tick(1);
        Due.is("asked by the new bounds", x.link(0, 6), 1);
    }

    private static void losses() {
        LosslessFabric x = calm("link a 5 0 9 1 3;link b 1 4 9 1 9;flow f 48 a b;flow g 48 a b;");
        x.tick(1);
        Due.is("f comes first", x.queue(0, 0), 3);
        Due.is("g is lost", x.queue(0, 1), 0);
        Due.is("lost", x.link(0, 8), 2);
        Due.is("all lost", x.count(5), 2);
        Due.is("carried all the same", x.link(0, 12), 5);
        Due.is("sent all the same", x.flow(1, 4), 2);
        Due.is("g has none on its way", x.onWay(1), 0);
        Due.is("f has three", x.onWay(0), 3);
        Due.is("lost ones are not counted", x.link(0, 13), 3);
        Due.is("greatest", x.link(0, 9), 3);
        Due.is("size below the queue", x.size(0, 1), 3);
        Due.is("what is in it stays", x.link(0, 5), 3);
        x.tick(1);
        Due.is("one goes, none comes", x.link(0, 5), 2);
        Due.is("all of these are lost", x.link(0, 8), 7);
        // two links of one flow lose each their own
        LosslessFabric y = calm("link a 2 0 99 1 1;link b 1 0 99 1 1;link c 1 4 99 1 1;flow f 32 a b c;");
        y.tick(1);
        Due.is("a", y.link(0, 8), 1);
        y.tick(1);
        Due.is("a", y.link(0, 8), 2);
        Due.is("b", y.link(1, 8), 0);
        Due.is("on its way", y.onWay(0), 2);
        Due.is("sent", y.flow(0, 4), 4);
    }

    private static void samples() {
        // f 3 cells, g 3 cells: the count comes to 4 by g
        LosslessFabric x = Due.fabric("sample 4 1 0;stage 999 99 1;link a 9 0 99 1 99;link b 1 0 99 1 99;flow f 48 a b;flow g 48 a b;");
        x.tick(1);
        Due.is("one sample", x.link(0, 10), 1);
        Due.is("less by EACH", x.link(0, 13), 2);
        Due.is("a notice", x.link(0, 11), 1);
        Due.is("not f", x.flow(0, 6), 0);
        Due.is("g is met", x.flow(1, 6), 1);
        Due.is("all notices", x.count(6), 1);
        Due.is("g cuts", x.flow(1, 0), 48 - 48 * 63 / 128);
        Due.is("f does not", x.flow(0, 0), 48);
        x.tick(1);
        // 2 and 3 of f: f is met now; g has 25 16ths: one cell
        Due.is("f is met", x.flow(0, 6), 1);
        Due.is("two samples", x.link(0, 10), 2);
        Due.is("2 and 3 and 1 less 4", x.link(0, 13), 2);
        // as often as it goes, but one sample
        LosslessFabric y = Due.fabric("sample 2 1 0;stage 999 99 1;link a 9 0 99 1 99;link b 1 0 99 1 99;flow f 112 a b;");
        y.tick(1);
        Due.is("one sample of 7 cells", y.link(0, 10), 1);
        Due.is("7 less 2, 2, 2", y.link(0, 13), 1);
        // exactly EACH
        LosslessFabric z = Due.fabric("sample 3 1 0;stage 999 99 1;link a 9 0 99 1 99;link b 1 0 99 1 99;flow f 48 a b;flow g 48 a b;");
        z.tick(1);
        Due.is("f is met at once", z.flow(0, 6), 1);
        Due.is("g is not", z.flow(1, 6), 0);
        Due.is("none left", z.link(0, 13), 0);
        // the last link has no queue
        Due.is("b is not sampled", z.link(1, 10), 0);
    }

    private static void notices() {
        // MIDDLE 10, WEIGHT 1: FEEDBACK is the queue less 10 and what it grew by
        LosslessFabric x = Due.fabric("sample 4 10 1;stage 999 99 1;link a 4 0 99 1 99;link b 1 4 99 1 99;flow f 64 a b;");
        x.tick(1);
        Due.is("4 less 10, 4 more: none", x.link(0, 11), 0);
        Due.is("sampled", x.link(0, 10), 1);
        Due.is("were it sampled now", x.feedback(0), 4 - 10);
        x.tick(1);
        Due.is("queue", x.link(0, 5), 7);
        Due.is("7 less 10, 3 more: 0 is none", x.link(0, 11), 0);
        Due.is("two samples", x.link(0, 10), 2);
        x.tick(1);
        Due.is("10 less 10, 3 more", x.link(0, 11), 1);
        Due.is("3 times 64 by 30 is 6", x.flow(0, 0), 64 - 64 * 6 / 128);
        Due.is("TARGET", x.flow(0, 1), 64);
        Due.is("NOTICES of the flow", x.flow(0, 6), 1);
    }

    private static void heldNotices() {
        LosslessFabric x = Due.fabric("sample 3 2 4;stage 999 99 1;link a 3 0 99 1 99;link b 1 4 99 1 99;flow f 128 a b;");
        x.tick(1);
        Due.is("3 less 2, 12 more by 18", x.flow(0, 0), 128 - 128 * (13 * 64 / 18) / 128);
        LosslessFabric y = Due.fabric("sample 1 1 0;stage 999 99 1;link a 64 0 99 1 99;link b 1 4 99 1 99;flow f 1024 a b;");
        y.tick(1);
        Due.is("63 at most", y.flow(0, 0), 1024 - 1024 * 63 / 128);
        LosslessFabric v = Due.fabric("sample 1 63 0;stage 999 99 1;link a 64 0 999 1 1999;link b 1 4 99 1 99;flow f 1024 a b;");
        v.tick(1);
        Due.is("1 times 64 by 63 is 1", v.flow(0, 0), 1024 - 8);
        // 64 cells come and one goes: 63 and 1 behind the first tick, 505 behind the eighth
        LosslessFabric u = Due.fabric("sample 512 500 0;stage 999 99 1;link a 64 0 999 1 1999;link b 1 4 99 1 99;flow f 1024 a b;");
        u.tick(7);
        Due.is("none below the middle", u.notice(0), 0);
        u.tick(1);
        Due.is("queue", u.link(0, 5), 505);
        Due.is("5 times 64 by 500 is 0: 1 at least", u.notice(0), 1);
        Due.is("1024 less 1024 by 128", u.flow(0, 0), 1016);
        LosslessFabric t = Due.fabric("sample 1 1 0;stage 999 99 1;link a 4 0 99 1 99;link b 1 4 99 1 99;flow f 1024 a b;");
        t.tick(1);
        t.rate(0, 3);
        int[] rates = {2, 2, 2};
        for (int i = 0; i < rates.length; i++) {
            t.tick(1);
            Due.is("a notice each tick", t.flow(0, 6), i + 2);
            Due.is("3 times 63 by 128 is 1, 2 times is 0", t.flow(0, 0), rates[i]);
        }
        t.rate(0, 1);
        t.tick(1);
        Due.is("a notice", t.flow(0, 6), 5);
        Due.is("RATE is 1 at least", t.flow(0, 0), 1);
        Due.is("TARGET", t.flow(0, 1), 1);
    }

    private static void noticesInOrder() {
        // both links meet f in one tick: the second notice cuts what the first one left
        LosslessFabric x = Due.fabric("sample 1 1 0;stage 999 99 1;link a 9 0 99 1 99;link b 8 0 99 1 99;link c 1 4 99 1 99;flow f 144 a b c;");
        x.tick(1);
        Due.is("9 less 1 by a", x.flow(0, 0), 144 - 144 * 63 / 128);
        x.turn(0);
        x.rate(0, 500);
        x.tick(1);
        Due.is("b sampled", x.link(1, 11), 1);
        Due.is("an OFF flow obeys too", x.flow(0, 0), 500 - 500 * 63 / 128);
        LosslessFabric y = Due.fabric("sample 1 1 0;stage 999 99 1;link a 9 0 99 1 99;link b 8 0 99 1 99;link c 1 4 99 1 99;flow f 144 a b c;");
        y.tick(1);
        y.rate(0, 500);
        y.tick(1);
        int first = 500 - 500 * 63 / 128;
        Due.is("both", y.flow(0, 6), 3);
        Due.is("TARGET is what the first one left", y.flow(0, 1), first);
        Due.is("RATE", y.flow(0, 0), first - first * 63 / 128);
    }

    private static void recovery() {
        LosslessFabric x = Due.fabric("sample 8 1 0;stage 3 4 10;link a 8 0 99 1 99;link b 64 4 99 1 99;flow f 128 a b;");
        x.tick(1);
        // NOTICE 63: 128 to 65, TARGET 128; then 8 cells: two stages, each half way
        Due.is("TARGET", x.flow(0, 1), 128);
        Due.is("65, 96, 112", x.flow(0, 0), 112);
        Due.is("STAGE 0", x.flow(0, 2), 2);
        Due.is("STAGE 1", x.flow(0, 3), 0);
        Due.is("cells", x.flow(0, 10), 2);
        Due.is("TICKS", x.flow(0, 11), 1);
        LosslessFabric y = Due.fabric("sample 999 1 0;stage 999 4 10;link a 1 0 99 1 99;flow f 8 a;");
        y.tick(4);
        Due.is("by TICKS", y.flow(0, 3), 1);
        Due.is("by TICKS", y.flow(0, 11), 0);
        Due.is("no more below six", y.flow(0, 1), 8);
        y.turn(0);
        y.tick(4);
        Due.is("OFF counts none", y.flow(0, 3), 1);
        Due.is("OFF counts none", y.flow(0, 11), 0);
        y.turn(0);
        y.tick(16);
        Due.is("five", y.flow(0, 3), 5);
        Due.is("no more yet", y.flow(0, 1), 8);
        y.tick(4);
        Due.is("six", y.flow(0, 3), 6);
        Due.is("one is above 5", y.flow(0, 1), 18);
        Due.is("half of 8 and 18", y.flow(0, 0), 13);
        y.tick(4);
        Due.is("again", y.flow(0, 1), 28);
        Due.is("half of 13 and 28, downwards", y.flow(0, 0), 20);
    }

    private static void stagesBoth() {
        // one cell each tick: both stages grow by one each tick, cells first
        LosslessFabric x = Due.fabric("sample 999 1 0;stage 1 1 3;link a 1 0 99 1 99;flow f 16 a;");
        x.tick(5);
        Due.is("five and five", x.flow(0, 2) * 10 + x.flow(0, 3), 55);
        Due.is("no more", x.flow(0, 1), 16);
        x.tick(1);
        Due.is("six and five: 3; six and six: 6", x.flow(0, 1), 16 + 3 + 6);
        Due.is("half of 16, 19; of 17, 25", x.flow(0, 0), 21);
        x.tick(1);
        Due.is("seven and six: 6; seven and seven: 12", x.flow(0, 1), 25 + 6 + 12);
        Due.is("half of 21, 31; of 26, 43", x.flow(0, 0), 34);
    }

    private static void targetHeld() {
        LosslessFabric x = Due.fabric("sample 999 1 0;stage 1 1 99;link a 64 0 99 1 99;flow f 1000 a;");
        x.tick(1);
        Due.is("1024 at most", x.flow(0, 1), 1024);
        Due.is("62 stages", x.flow(0, 2), 62);
        Due.is("not above TARGET", x.flow(0, 0) <= 1024, true);
        x.tick(50);
        Due.is("1024 at most", x.flow(0, 1), 1024);
        Due.is("1023 and 1024 by two, downwards", x.flow(0, 0), 1023);
    }

    private static void rate() {
        LosslessFabric x = Due.fabric("sample 8 1 0;stage 3 4 10;link a 8 0 99 1 99;link b 64 4 99 1 99;flow f 128 a b;");
        x.tick(1);
        Due.is("rate(0, 5)", x.rate(0, 5), 112);
        Due.is("RATE", x.flow(0, 0), 5);
        Due.is("TARGET", x.flow(0, 1), 5);
        Due.is("the STAGE stays", x.flow(0, 2), 2);
        Due.is("the counts stay", x.flow(0, 10) * 10 + x.flow(0, 11), 21);
        Due.is("1", x.rate(0, 1), 5);
        Due.is("1024", x.rate(0, 1024), 1);
        Due.is("the same", x.rate(0, 1024), 1024);
        Due.is("all can be undone", x.count(9), 5);
        Due.is("0", x.rate(0, 0), -1);
        Due.is("1025", x.rate(0, 1025), -1);
        Due.is("flow 1", x.rate(1, 5), -1);
        Due.is("flow -1", x.rate(-1, 5), -1);
        Due.is("refused", x.flow(0, 0), 1024);
        Due.is("refused", x.count(9), 5);
    }

    private static void turn() {
        LosslessFabric x = calm("link a 1 0 9 1 9;flow f 16 a;flow g 16 a;off g;");
        Due.is("ON", x.flow(0, 7), 1);
        Due.is("OFF", x.flow(1, 7), 0);
        Due.is("turn(0)", x.turn(0), 0);
        Due.is("turn(1)", x.turn(1), 1);
        Due.is("ON", x.count(7), 1);
        Due.is("OFF", x.flow(0, 7), 0);
        Due.is("turn(0)", x.turn(0), 1);
        Due.is("turn(2)", x.turn(2), -1);
        Due.is("turn(-1)", x.turn(-1), -1);
        Due.is("turn(least)", x.turn(Integer.MIN_VALUE), -1);
        Due.is("refused", x.count(9), 3);
    }

    private static void boundsOfLinks() {
        LosslessFabric x = calm("link a 1 0 9 1 9;link b 1 0 9 1 9;");
        int[][] good = {{1, 0}, {999, 998}, {999, 0}, {2, 1}, {2, 1}};
        for (int[] b : good) {
            Due.is("bounds", x.bounds(1, b[0], b[1]), true);
            Due.is("XOFF", x.link(1, 2), b[0]);
            Due.is("XON", x.link(1, 3), b[1]);
        }
        Due.is("also to what it is already", x.count(9), 5);
        int[][] bad = {{0, 0}, {0, -1}, {1000, 998}, {1000, 999}, {5, 5}, {5, 6}, {5, -1}, {-5, -6}, {Integer.MAX_VALUE, 0}};
        for (int[] b : bad) {
            Due.is("bounds " + b[0] + " " + b[1], x.bounds(1, b[0], b[1]), false);
        }
        Due.is("no such link", x.bounds(2, 5, 4), false);
        Due.is("no such link", x.bounds(-1, 5, 4), false);
        Due.is("refused", x.count(9), 5);
        Due.is("refused", x.link(1, 2), 2);
        Due.is("the other one", x.link(0, 2), 9);
    }

    private static void size() {
        LosslessFabric x = calm("link a 1 0 9 1 9;link b 1 0 9 1 19;");
        Due.is("size", x.size(1, 1), 19);
        Due.is("size", x.size(1, 1999), 1);
        Due.is("the same", x.size(1, 1999), 1999);
        Due.is("0", x.size(1, 0), -1);
        Due.is("2000", x.size(1, 2000), -1);
        Due.is("no such link", x.size(2, 5), -1);
        Due.is("no such link", x.size(-1, 5), -1);
        Due.is("refused", x.link(1, 4), 1999);
        Due.is("refused", x.count(9), 3);
        Due.is("the other one", x.link(0, 4), 9);
    }

    private static void linkAnswers() {
        LosslessFabric x = calm("link a 64 4 999 998 1999;link b 3 1 7 2 11;flow f 160 b a;");
        x.tick(2);
        int[] due = {3, 1, 7, 2, 11, 3, 0, 0, 0, 3, 0, 0, 3, 6};
        for (int what = 0; what < due.length; what++) {
            Due.is("link(1, " + what + ")", x.link(1, what), due[what]);
        }
        int[] other = {64, 4, 999, 998, 1999, 0, 0, 0, 0, 0, 0, 0, 3, 0};
        for (int what = 0; what < other.length; what++) {
            Due.is("link(0, " + what + ")", x.link(0, what), other[what]);
        }
        Due.is("link(1, 14)", Due.thrownByLink(x, 1, 14), 2);
        Due.is("link(1, -1)", Due.thrownByLink(x, 1, -1), 2);
        Due.is("link(1, most)", Due.thrownByLink(x, 1, Integer.MAX_VALUE), 2);
        Due.is("link(2, 0)", Due.thrownByLink(x, 2, 0), 1);
        Due.is("link(-1, 0)", Due.thrownByLink(x, -1, 0), 1);
        Due.is("no such link goes first", Due.thrownByLink(x, 2, 14), 1);
        Due.is("no such link goes first", Due.thrownByLink(x, -1, -1), 1);
        Due.is("refused", x.count(9), 1);
        Due.is("a new one has none", Due.thrownByLink(new LosslessFabric(), 0, 0), 1);
    }

    private static void queueFlowPath() {
        LosslessFabric x = calm("link a 64 4 999 998 1999;link b 3 1 7 2 11;link c 5 0 9 0 9;flow f 160 b a;flow g 7 c a b;off g;");
        x.tick(2);
        int[] f = {160, 160, 0, 0, 6, 3, 0, 1, 320 - 96, 2, 6, 2};
        int[] g = {7, 7, 0, 0, 0, 0, 0, 0, 0, 3, 0, 0};
        for (int what = 0; what < 12; what++) {
            Due.is("flow(0, " + what + ")", x.flow(0, what), f[what]);
            Due.is("flow(1, " + what + ")", x.flow(1, what), g[what]);
        }
        Due.is("flow(0, 12)", x.flow(0, 12), -1);
        Due.is("flow(0, -1)", x.flow(0, -1), -1);
        Due.is("flow(2, 0)", x.flow(2, 0), -1);
        Due.is("flow(-1, 0)", x.flow(-1, 0), -1);
        Due.is("queue(1, 0)", x.queue(1, 0), 3);
        Due.is("queue(1, 1)", x.queue(1, 1), 0);
        Due.is("a flow that is not there", x.queue(2, 0), 0);
        Due.is("queue(3, 0)", x.queue(3, 0), -1);
        Due.is("queue(-1, 0)", x.queue(-1, 0), -1);
        Due.is("queue(0, 2)", x.queue(0, 2), -1);
        Due.is("queue(0, -1)", x.queue(0, -1), -1);
        int[] path = {2, 0, 1};
        for (int i = 0; i < 3; i++) {
            Due.is("path(1, " + i + ")", x.path(1, i), path[i]);
        }
        Due.is("path(1, 3)", x.path(1, 3), -1);
        Due.is("path(0, 2)", x.path(0, 2), -1);
        Due.is("path(1, -1)", x.path(1, -1), -1);
        Due.is("path(2, 0)", x.path(2, 0), -1);
        Due.is("path(-1, 0)", x.path(-1, 0), -1);
    }

    private static void feedbackAndNotice() {
        LosslessFabric x = Due.fabric("sample 999 3 2;stage 999 99 1;link a 4 0 99 1 99;link b 1 4 99 1 99;flow f 64 a b;");
        Due.is("feedback(0)", x.feedback(0), -3);
        Due.is("notice(0)", x.notice(0), 0);
        x.tick(1);
        Due.is("4 less 3, and 8", x.feedback(0), 9);
        Due.is("9 times 64 by 15", x.notice(0), 38);
        x.tick(1);
        Due.is("7 less 3, and 14", x.feedback(0), 18);
        Due.is("18 times 64 by 15: held", x.notice(0), 63);
        Due.is("nothing is sampled by this", x.link(0, 10), 0);
        Due.is("feedback(2)", x.feedback(2), Integer.MIN_VALUE);
        Due.is("feedback(-1)", x.feedback(-1), Integer.MIN_VALUE);
        Due.is("notice(2)", x.notice(2), -1);
        Due.is("notice(-1)", x.notice(-1), -1);
        LosslessFabric y = Due.fabric("sample 999 1 0;link a 1 0 99 1 99;link b 1 4 99 1 99;flow f 16 a b;");
        y.tick(1);
        Due.is("0", y.feedback(0), 0);
        Due.is("0 is none", y.notice(0), 0);
    }
}
