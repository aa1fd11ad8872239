import java.util.NoSuchElementException;

/**
 * A fabric of links and flows that loses nothing while its queues have headroom.
 *
 * All that ticks and calls can change lies in one row of numbers, so that undoing, images and
 * looks ahead are copies of a row; what only a text can change lies in a Plan.
 */
public final class LosslessFabric {
    public static final int NONE = -1;

    private static final int NOT_THERE = -2;

    private static final int MAX_LINKS = 10;
    private static final int MAX_FLOWS = 8;
    private static final int MAX_HOPS = 5;
    private static final int MAX_BYTES = 700;
    private static final int MAX_UNDONE = 20;
    private static final int MAX_TICK = 9999;
    private static final int MAX_TICKS_A_CALL = 50;
    private static final int MAX_XOFF = 999;
    private static final int MAX_XON = 998;
    private static final int MAX_SIZE = 1999;
    private static final int MAX_RATE = 1024;
    private static final int MAX_CREDIT = 1024;
    private static final int MAX_NOTICE = 63;
    private static final int MAX_AHEAD = 300;
    private static final int PARTS_OF_A_CELL = 16;
    private static final int FEED_BYTES = 20;

    // Where the row holds what is told of each link.
    private static final int XOFF = 0;
    private static final int XON = 10;
    private static final int SIZE = 20;
    private static final int FILL = 30;
    /** What was asked, a bit for each of the latest ticks, the latest lowest. */
    private static final int ASKED = 40;
    private static final int LINK_LOST = 50;
    private static final int GREATEST = 60;
    private static final int SAMPLES = 70;
    private static final int LINK_NOTICES = 80;
    private static final int CARRIED = 90;
    private static final int COUNTED = 100;
    private static final int FILL_AT_SAMPLE = 110;
    /** Cells of each flow in each queue: eight numbers for each link. */
    private static final int CELLS = 120;
    // Where the row holds what is told of each flow.
    private static final int RATE = 200;
    private static final int TARGET = 208;
    private static final int STAGE_BY_CELLS = 216;
    private static final int STAGE_BY_TICKS = 224;
    private static final int SENT = 232;
    private static final int DELIVERED = 240;
    private static final int FLOW_LOST = 248;
    private static final int FLOW_NOTICES = 256;
    private static final int ON = 264;
    private static final int CREDIT = 272;
    private static final int COUNT_OF_CELLS = 280;
    private static final int COUNT_OF_TICKS = 288;
    private static final int TICK = 296;
    private static final int ROW = 297;

    // Where a plan holds what the lines that stand once tell.
    private static final int EACH = 0;
    private static final int MIDDLE = 1;
    private static final int WEIGHT = 2;
    private static final int STAGE_CELLS = 3;
    private static final int STAGE_TICKS = 4;
    private static final int MORE = 5;
    private static final int SEED = 6;
    private static final int SETTINGS = 7;

    /** Five bits: a delay of 4 looks back at what was asked five ticks ahead. */
    private static final int ASKED_BITS = 31;

    /** In Plan.linkAhead: the flow does not go by that link. */
    private static final int OFF_WAY = -2;
    /** In Plan.linkAhead: the link is the flow's first one. */
    private static final int SOURCE = -1;

    // The kinds of tokens.
    private static final int END = 0;
    private static final int NAME = 1;
    private static final int KEYWORD = 2;
    private static final int NUMBER = 3;
    private static final int SEMICOLON = 4;
    private static final int OTHER = 5;

    private static final int MAX_LETTERS = 6;
    private static final int BITS_A_LETTER = 5;
    /** Above every bound of the language, so that longer numbers stay beyond it. */
    private static final int MUCH = 1000000;

    // The words of the language, five bits a letter.
    private static final int WORD_LINK = 12 << 25 | 9 << 20 | 14 << 15 | 11 << 10;
    private static final int WORD_FLOW = 6 << 25 | 12 << 20 | 15 << 15 | 23 << 10;
    private static final int WORD_SAMPLE = 19 << 25 | 1 << 20 | 13 << 15 | 16 << 10 | 12 << 5 | 5;
    private static final int WORD_STAGE = 19 << 25 | 20 << 20 | 1 << 15 | 7 << 10 | 5 << 5;
    private static final int WORD_OFF = 15 << 25 | 6 << 20 | 6 << 15;
    private static final int WORD_SEED = 19 << 25 | 5 << 20 | 5 << 15 | 4 << 10;

    private static final int FAULT_TOKEN = 1;
    private static final int FAULT_TOO_MUCH = 2;
    private static final int FAULT_TOLD = 3;
    private static final int FAULT_UNTOLD = 4;

    private final Tape tape = new Tape();
    private final Reader reader = new Reader();
    private final Ticker ticker = new Ticker();
    private final Waits knots = new Waits();
    private final Shares shares = new Shares();
    private final Past past = new Past();
    private final int[] now = new int[ROW];
    /** Looks ahead, and texts that may yet be refused, go here first. */
    private final int[] trial = new int[ROW];
    private Plan plan = new Plan();
    private Plan spare = new Plan();
    private int faultCode = 0;
    private int faultPlace = NONE;

    public LosslessFabric() {
    }

    // ---- the text ----

    public int feed(int a, int b, int c, int d, int e) {
        if (tape.length + FEED_BYTES > MAX_BYTES) {
            return NONE;
        }
        tape.append(a);
        tape.append(b);
        tape.append(c);
        tape.append(d);
        tape.append(e);
        return tape.length;
    }

    public int text(int n) {
        if (n < 0 || n > tape.length) {
            return NOT_THERE;
        }
        tape.rewind(n);
        reader.begin(spare, trial);
        int lines = 0;
        tape.next();
        while (lines < MAX_BYTES && tape.kind != END && reader.readLine(tape, spare, trial)) {
            lines++;
            tape.next();
        }
        tape.length = 0;
        faultCode = reader.code;
        faultPlace = reader.place;
        if (faultCode != 0) {
            return NONE;
        }
        takeWhatWasRead();
        return lines;
    }

    private void takeWhatWasRead() {
        Plan old = plan;
        plan = spare;
        spare = old;
        System.arraycopy(trial, 0, now, 0, ROW);
        past.forgetSteps();
        past.hasImage = false;
    }

    public int fault(int what) {
        if (what == 0) {
            return faultCode;
        }
        return what == 1 ? faultPlace : NONE;
    }

    public int named(int kind, int letters) {
        if (kind == 0) {
            return plan.linkOf(letters);
        }
        return kind == 1 ? plan.flowOf(letters) : NONE;
    }

    // ---- what changes the fabric ----

    public int tick(int n) {
        if (n < 1 || n > MAX_TICKS_A_CALL) {
            return NONE;
        }
        if (now[TICK] + n > MAX_TICK) {
            return NOT_THERE;
        }
        past.push(now);
        run(now, n);
        return now[TICK];
    }

    public int rate(int flow, int r) {
        if (!isFlow(flow) || r < 1 || r > MAX_RATE) {
            return NONE;
        }
        past.push(now);
        int was = now[RATE + flow];
        now[RATE + flow] = r;
        now[TARGET + flow] = r;
        return was;
    }

    public int turn(int flow) {
        if (!isFlow(flow)) {
            return NONE;
        }
        past.push(now);
        now[ON + flow] = 1 - now[ON + flow];
        return now[ON + flow];
    }

    public boolean bounds(int link, int xoff, int xon) {
        if (!isLink(link) || xoff < 1 || xoff > MAX_XOFF || xon < 0 || xon > MAX_XON || xon >= xoff) {
            return false;
        }
        past.push(now);
        now[XOFF + link] = xoff;
        now[XON + link] = xon;
        return true;
    }

    public int size(int link, int n) {
        if (!isLink(link) || n < 1 || n > MAX_SIZE) {
            return NONE;
        }
        past.push(now);
        int was = now[SIZE + link];
        now[SIZE + link] = n;
        return was;
    }

    // ---- what is ----

    public int link(int link, int what) throws IndexOutOfBoundsException, NoSuchElementException {
        if (!isLink(link)) {
            throw new IndexOutOfBoundsException("no such link");
        }
        if (what < 0 || what > 13) {
            throw new NoSuchElementException("nothing such of a link");
        }
        switch (what) {
            case 0: return plan.caps[link];
            case 1: return plan.delays[link];
            case 2: return now[XOFF + link];
            case 3: return now[XON + link];
            case 4: return now[SIZE + link];
            case 5: return now[FILL + link];
            case 6: return now[ASKED + link] & 1;
            case 7: return plan.isPaused(now, link) ? 1 : 0;
            case 8: return now[LINK_LOST + link];
            case 9: return now[GREATEST + link];
            case 10: return now[SAMPLES + link];
            case 11: return now[LINK_NOTICES + link];
            case 12: return now[CARRIED + link];
            default: return now[COUNTED + link];
        }
    }

    public int queue(int link, int flow) {
        if (!isLink(link) || !isFlow(flow)) {
            return NONE;
        }
        return now[CELLS + link * MAX_FLOWS + flow];
    }

    public int flow(int flow, int what) {
        if (!isFlow(flow)) {
            return NONE;
        }
        switch (what) {
            case 0: return now[RATE + flow];
            case 1: return now[TARGET + flow];
            case 2: return now[STAGE_BY_CELLS + flow];
            case 3: return now[STAGE_BY_TICKS + flow];
            case 4: return now[SENT + flow];
            case 5: return now[DELIVERED + flow];
            case 6: return now[FLOW_NOTICES + flow];
            case 7: return now[ON + flow];
            case 8: return now[CREDIT + flow];
            case 9: return plan.hops[flow];
            case 10: return now[COUNT_OF_CELLS + flow];
            case 11: return now[COUNT_OF_TICKS + flow];
            default: return NONE;
        }
    }

    public int path(int flow, int i) {
        if (!isFlow(flow) || i < 0 || i >= plan.hops[flow]) {
            return NONE;
        }
        return plan.paths[flow * MAX_HOPS + i];
    }

    public int feedback(int link) {
        return isLink(link) ? plan.feedbackOf(now, link) : Integer.MIN_VALUE;
    }

    public int notice(int link) {
        return isLink(link) ? plan.noticeOf(plan.feedbackOf(now, link)) : NONE;
    }

    public int headroom(int link) {
        return isLink(link) ? plan.headroomOf(now, link) : NONE;
    }

    public int safe() {
        int bits = 0;
        for (int l = 0; l < plan.linkCount; l++) {
            if (plan.headroomOf(now, l) <= now[SIZE + l]) {
                bits |= 1 << l;
            }
        }
        return bits;
    }

    // ---- which links wait ----

    public int waits(int link) {
        return isLink(link) ? knots.waitsOf(plan, now, link) : NONE;
    }

    public int cycle(int i) {
        if (i < 0) {
            return NONE;
        }
        knots.findFirst(plan, now);
        return i < knots.ringLength ? knots.ring[i] : NOT_THERE;
    }

    public int witness(int i) {
        if (i < 0) {
            return NONE;
        }
        knots.findFirst(plan, now);
        return i < knots.ringLength ? knots.witnessOf(plan, now, i) : NOT_THERE;
    }

    public int inCycles(int what) {
        if (what == 0) {
            return knots.inPauseCycles(plan, now);
        }
        return what == 1 ? knots.inPossibleCycles(plan) : NONE;
    }

    // ---- which rates would be fair ----

    public long fair(int flow, boolean under) {
        if (!isFlow(flow)) {
            return NONE;
        }
        shares.share(plan, now);
        return under ? shares.lower(flow) : shares.upper(flow);
    }

    public int full() {
        shares.share(plan, now);
        int bits = 0;
        for (int l = 0; l < plan.linkCount; l++) {
            if (shares.fills(plan, l)) {
                bits |= 1 << l;
            }
        }
        return bits;
    }

    // ---- what will be ----

    public int ahead(int link, int n, int what) {
        if (!isLink(link) || n < 0 || n > MAX_AHEAD || what < 0 || what > 2) {
            return NONE;
        }
        startTrial();
        int greatest = trial[FILL + link];
        for (int i = 0; i < n; i++) {
            ticker.step(plan, trial);
            greatest = Math.max(greatest, trial[FILL + link]);
        }
        if (what == 0) {
            return trial[FILL + link];
        }
        return what == 1 ? greatest : trial[LINK_LOST + link] - now[LINK_LOST + link];
    }

    public int flows(int flow, int n, int what) {
        if (!isFlow(flow) || n < 0 || n > MAX_AHEAD || what < 0 || what > 2) {
            return NONE;
        }
        startTrial();
        run(trial, n);
        if (what == 0) {
            return trial[RATE + flow];
        }
        int from = what == 1 ? DELIVERED : SENT;
        return trial[from + flow] - now[from + flow];
    }

    public int stalls() {
        startTrial();
        for (int i = 0; i <= MAX_AHEAD; i++) {
            if (knots.inPauseCycles(plan, trial) != 0) {
                return i;
            }
            ticker.step(plan, trial);
        }
        return NOT_THERE;
    }

    public int quiet() {
        startTrial();
        for (int f = 0; f < plan.flowCount; f++) {
            trial[ON + f] = 0;
        }
        for (int i = 0; i <= MAX_AHEAD; i++) {
            if (sum(trial, FILL, plan.linkCount) == 0) {
                return i;
            }
            ticker.step(plan, trial);
        }
        return NOT_THERE;
    }

    public int worst(int n) {
        if (n < 1 || n > 40) {
            return NONE;
        }
        int worst = NOT_THERE;
        int most = NONE;
        for (int f = 0; f < plan.flowCount; f++) {
            if (now[ON + f] == 1) {
                int others = deliveredWithout(f, n);
                if (others > most) {
                    most = others;
                    worst = f;
                }
            }
        }
        return worst;
    }

    private int deliveredWithout(int flow, int n) {
        startTrial();
        trial[ON + flow] = 0;
        run(trial, n);
        int all = grown(DELIVERED, plan.flowCount);
        return all - (trial[DELIVERED + flow] - now[DELIVERED + flow]);
    }

    public int leastSize(int link, int n) {
        if (!isLink(link) || n < 1 || n > 100) {
            return NONE;
        }
        startTrial();
        // A link that loses nothing goes as if it had any greater size: one run tells of all sizes.
        trial[SIZE + link] = MAX_SIZE;
        int least = 1;
        for (int i = 0; i < n; i++) {
            ticker.step(plan, trial);
            if (ticker.cameTo(plan, link) > 0) {
                least = Math.max(least, trial[FILL + link]);
            }
        }
        return trial[LINK_LOST + link] == now[LINK_LOST + link] ? least : NOT_THERE;
    }

    public int onWay(int flow) {
        if (!isFlow(flow)) {
            return NONE;
        }
        return now[SENT + flow] - now[DELIVERED + flow] - now[FLOW_LOST + flow];
    }

    public int chance(int seed, int n, int p, int what) {
        if (seed < NONE || n < 1 || n > 200 || p < 0 || p > 100 || what < 0 || what > 3) {
            return NONE;
        }
        int stalled = runByChance(seed == NONE ? plan.settings[SEED] : seed, n, p);
        switch (what) {
            case 0: return grown(DELIVERED, plan.flowCount);
            case 1: return grown(LINK_LOST, plan.linkCount);
            case 2: return stalled;
            default: return grown(LINK_NOTICES, plan.linkCount);
        }
    }

    /** Answers behind how many of the ticks there was a pause cycle. */
    private int runByChance(int seed, int n, int p) {
        startTrial();
        int stalled = 0;
        int last = seed;
        for (int i = 0; i < n; i++) {
            if (plan.flowCount > 0) {
                last = nextNumber(last);
                int flow = (last >> 16) % plan.flowCount;
                last = nextNumber(last);
                if ((last >> 16) % 100 < p) {
                    trial[ON + flow] = 1 - trial[ON + flow];
                }
            }
            ticker.step(plan, trial);
            if (knots.inPauseCycles(plan, trial) != 0) {
                stalled++;
            }
        }
        return stalled;
    }

    private static int nextNumber(int last) {
        return last * 1103515245 + 12345 & Integer.MAX_VALUE;
    }

    // ---- what was ----

    public int undo() {
        if (past.steps == 0) {
            return NONE;
        }
        past.pop(now);
        return past.steps;
    }

    public int keep() {
        System.arraycopy(now, 0, past.image, 0, ROW);
        past.hasImage = true;
        return now[TICK];
    }

    public int back() {
        if (!past.hasImage) {
            return NONE;
        }
        System.arraycopy(past.image, 0, now, 0, ROW);
        past.forgetSteps();
        return now[TICK];
    }

    public int count(int what) {
        switch (what) {
            case 0: return plan.linkCount;
            case 1: return plan.flowCount;
            case 2: return now[TICK];
            case 3: return sum(now, SENT, plan.flowCount);
            case 4: return sum(now, DELIVERED, plan.flowCount);
            case 5: return sum(now, LINK_LOST, plan.linkCount);
            case 6: return sum(now, LINK_NOTICES, plan.linkCount);
            case 7: return sum(now, ON, plan.flowCount);
            case 8: return askedPause();
            case 9: return past.steps;
            case 10: return tape.length;
            default: return NONE;
        }
    }

    private int askedPause() {
        int asked = 0;
        for (int l = 0; l < plan.linkCount; l++) {
            asked += now[ASKED + l] & 1;
        }
        return asked;
    }

    // ---- shared by the calls above ----

    private boolean isLink(int link) {
        return link >= 0 && link < plan.linkCount;
    }

    private boolean isFlow(int flow) {
        return flow >= 0 && flow < plan.flowCount;
    }

    private void startTrial() {
        System.arraycopy(now, 0, trial, 0, ROW);
    }

    private void run(int[] row, int n) {
        for (int i = 0; i < n; i++) {
            ticker.step(plan, row);
        }
    }

    /** How much more the trial has than there is now. */
    private int grown(int from, int length) {
        return sum(trial, from, length) - sum(now, from, length);
    }

    private static int sum(int[] row, int from, int length) {
        int sum = 0;
        for (int i = 0; i < length; i++) {
            sum += row[from + i];
        }
        return sum;
    }

    /** What only a text can change. */
    private static final class Plan {
        private final int[] linkNames = new int[MAX_LINKS];
        private final int[] caps = new int[MAX_LINKS];
        private final int[] delays = new int[MAX_LINKS];
        private final int[] flowNames = new int[MAX_FLOWS];
        private final int[] hops = new int[MAX_FLOWS];
        private final int[] paths = new int[MAX_FLOWS * MAX_HOPS];
        /** For each link and flow the link ahead of it on the flow's way, SOURCE or OFF_WAY. */
        private final int[] linkAhead = new int[MAX_LINKS * MAX_FLOWS];
        /** For each link and flow the link behind it on the flow's way, or NONE. */
        private final int[] linkBehind = new int[MAX_LINKS * MAX_FLOWS];
        private final int[] settings = new int[SETTINGS];
        private int linkCount;
        private int flowCount;

        Plan() {
            clear();
        }

        void clear() {
            linkCount = 0;
            flowCount = 0;
            settings[EACH] = 20;
            settings[MIDDLE] = 26;
            settings[WEIGHT] = 2;
            settings[STAGE_CELLS] = 50;
            settings[STAGE_TICKS] = 10;
            settings[MORE] = 4;
            settings[SEED] = 0;
            for (int i = 0; i < linkAhead.length; i++) {
                linkAhead[i] = OFF_WAY;
                linkBehind[i] = NONE;
            }
        }

        int linkOf(int letters) {
            for (int l = 0; l < linkCount; l++) {
                if (linkNames[l] == letters) {
                    return l;
                }
            }
            return NONE;
        }

        int flowOf(int letters) {
            for (int f = 0; f < flowCount; f++) {
                if (flowNames[f] == letters) {
                    return f;
                }
            }
            return NONE;
        }

        /** A flow's way, which has so many links so far, goes on by one where it has not been. */
        void goOn(int flow, int hop, int link) {
            if (hop < 0 || hop >= MAX_HOPS) {
                return;
            }
            int before = hop == 0 ? SOURCE : paths[flow * MAX_HOPS + hop - 1];
            if (before >= 0) {
                linkBehind[before * MAX_FLOWS + flow] = link;
            }
            linkAhead[link * MAX_FLOWS + flow] = before;
            paths[flow * MAX_HOPS + hop] = link;
            hops[flow] = hop + 1;
        }

        boolean isPaused(int[] row, int link) {
            return (row[ASKED + link] >> delays[link] & 1) == 1;
        }

        int feedbackOf(int[] row, int link) {
            int fill = row[FILL + link];
            return fill - settings[MIDDLE] + settings[WEIGHT] * (fill - row[FILL_AT_SAMPLE + link]);
        }

        /** 0: there is none. */
        int noticeOf(int feedback) {
            int span = settings[MIDDLE] * (1 + 2 * settings[WEIGHT]);
            if (feedback <= 0 || span <= 0) {
                return 0;
            }
            return Math.max(1, Math.min(MAX_NOTICE, feedback * 64 / span));
        }

        int headroomOf(int[] row, int link) {
            return row[XOFF + link] - 1 + caps[link] * (delays[link] + 1);
        }
    }

    /** The bytes that were fed, and the tokens of a text among them. */
    private static final class Tape {
        private final byte[] bytes = new byte[MAX_BYTES];
        private int length = 0;
        private int end = 0;
        private int at = 0;
        private int kind = END;
        private int place = 0;
        /** A word's letters, a number's value. */
        private int value = 0;

        void append(int number) {
            for (int shift = 24; shift >= 0 && length < bytes.length; shift -= 8) {
                bytes[length] = (byte) (number >> shift);
                length++;
            }
        }

        void rewind(int n) {
            end = Math.min(n, length);
            at = 0;
        }

        void next() {
            while (at < end && isBlank(bytes[at])) {
                at++;
            }
            place = at;
            value = 0;
            if (at >= end) {
                kind = END;
            } else if (isLetter(bytes[at])) {
                scanWord();
            } else if (isDigit(bytes[at])) {
                scanNumber();
            } else {
                kind = bytes[at] == ';' ? SEMICOLON : OTHER;
                at++;
            }
        }

        private void scanWord() {
            int letters = 0;
            while (at < end && isLetter(bytes[at])) {
                if (letters < MAX_LETTERS) {
                    value = value << BITS_A_LETTER | bytes[at] - 'a' + 1;
                }
                letters++;
                at++;
            }
            if (letters > MAX_LETTERS) {
                kind = OTHER;
                return;
            }
            value = value << BITS_A_LETTER * (MAX_LETTERS - letters);
            kind = isKeyword(value) ? KEYWORD : NAME;
        }

        private void scanNumber() {
            kind = NUMBER;
            while (at < end && isDigit(bytes[at])) {
                value = Math.min(MUCH, value * 10 + bytes[at] - '0');
                at++;
            }
        }

        private static boolean isBlank(int sign) {
            return sign == 10 || sign == 32;
        }

        private static boolean isLetter(int sign) {
            return sign >= 'a' && sign <= 'z';
        }

        private static boolean isDigit(int sign) {
            return sign >= '0' && sign <= '9';
        }

        private static boolean isKeyword(int letters) {
            return letters == WORD_LINK || letters == WORD_FLOW || letters == WORD_SAMPLE
                || letters == WORD_STAGE || letters == WORD_OFF || letters == WORD_SEED;
        }
    }

    /**
     * Reads a text from a tape into a plan and a row. Each fault is looked for at its own token,
     * those of one token from the least number on, so the first one met is the one to tell.
     */
    private static final class Reader {
        private int code = 0;
        private int place = NONE;
        /** Which of the lines that stand once at most were told, as bits. */
        private int told = 0;

        void begin(Plan plan, int[] row) {
            code = 0;
            place = NONE;
            told = 0;
            plan.clear();
            for (int i = 0; i < row.length; i++) {
                row[i] = 0;
            }
        }

        /** A line from its word, which the tape is at, to its semicolon: whether it has no fault. */
        boolean readLine(Tape tape, Plan plan, int[] row) {
            if (tape.kind != KEYWORD) {
                return failed(tape, FAULT_TOKEN);
            }
            switch (tape.value) {
                case WORD_LINK: return readLink(tape, plan, row);
                case WORD_FLOW: return readFlow(tape, plan, row);
                case WORD_SAMPLE: return readSample(tape, plan.settings);
                case WORD_STAGE: return readStage(tape, plan.settings);
                case WORD_OFF: return readOff(tape, plan, row);
                default: return readSeed(tape, plan.settings);
            }
        }

        private boolean readLink(Tape tape, Plan plan, int[] row) {
            int l = plan.linkCount;
            if (l >= MAX_LINKS) {
                return failed(tape, FAULT_TOO_MUCH);
            }
            if (!readName(tape)) {
                return false;
            }
            if (plan.linkOf(tape.value) != NONE) {
                return failed(tape, FAULT_TOLD);
            }
            plan.linkNames[l] = tape.value;
            plan.linkCount = l + 1;
            return readNumber(tape, 1, 64, plan.caps, l)
                && readNumber(tape, 0, 4, plan.delays, l)
                && readNumber(tape, 1, MAX_XOFF, row, XOFF + l)
                && readNumber(tape, 0, Math.min(MAX_XON, row[XOFF + l] - 1), row, XON + l)
                && readNumber(tape, 1, MAX_SIZE, row, SIZE + l)
                && readSemicolon(tape);
        }

        private boolean readFlow(Tape tape, Plan plan, int[] row) {
            int f = plan.flowCount;
            if (f >= MAX_FLOWS) {
                return failed(tape, FAULT_TOO_MUCH);
            }
            if (!readName(tape)) {
                return false;
            }
            if (plan.flowOf(tape.value) != NONE) {
                return failed(tape, FAULT_TOLD);
            }
            plan.flowNames[f] = tape.value;
            plan.flowCount = f + 1;
            if (!readNumber(tape, 1, MAX_RATE, row, RATE + f)) {
                return false;
            }
            row[TARGET + f] = row[RATE + f];
            row[ON + f] = 1;
            return readPath(tape, plan, f);
        }

        /** The links of a flow, and the semicolon behind them. */
        private boolean readPath(Tape tape, Plan plan, int flow) {
            for (int hop = 0; hop <= MAX_HOPS; hop++) {
                tape.next();
                if (hop > 0 && tape.kind == SEMICOLON) {
                    return true;
                }
                if (tape.kind != NAME) {
                    return failed(tape, FAULT_TOKEN);
                }
                if (hop == MAX_HOPS) {
                    return failed(tape, FAULT_TOO_MUCH);
                }
                int link = plan.linkOf(tape.value);
                if (link == NONE) {
                    return failed(tape, FAULT_UNTOLD);
                }
                if (plan.linkAhead[link * MAX_FLOWS + flow] != OFF_WAY) {
                    return failed(tape, FAULT_TOLD);
                }
                plan.goOn(flow, hop, link);
            }
            return false;
        }

        private boolean readSample(Tape tape, int[] settings) {
            return isFirst(tape, 1)
                && readNumber(tape, 1, 999, settings, EACH)
                && readNumber(tape, 1, 500, settings, MIDDLE)
                && readNumber(tape, 0, 4, settings, WEIGHT)
                && readSemicolon(tape);
        }

        private boolean readStage(Tape tape, int[] settings) {
            return isFirst(tape, 2)
                && readNumber(tape, 1, 999, settings, STAGE_CELLS)
                && readNumber(tape, 1, 99, settings, STAGE_TICKS)
                && readNumber(tape, 1, 99, settings, MORE)
                && readSemicolon(tape);
        }

        private boolean readSeed(Tape tape, int[] settings) {
            return isFirst(tape, 4) && readNumber(tape, 0, 99999, settings, SEED) && readSemicolon(tape);
        }

        private boolean readOff(Tape tape, Plan plan, int[] row) {
            if (!readName(tape)) {
                return false;
            }
            int flow = plan.flowOf(tape.value);
            if (flow == NONE) {
                return failed(tape, FAULT_UNTOLD);
            }
            if (row[ON + flow] == 0) {
                return failed(tape, FAULT_TOLD);
            }
            row[ON + flow] = 0;
            return readSemicolon(tape);
        }

        /** Whether the line at hand was not told ahead; it is from now on. */
        private boolean isFirst(Tape tape, int bit) {
            if ((told & bit) != 0) {
                return failed(tape, FAULT_TOLD);
            }
            told |= bit;
            return true;
        }

        private boolean readName(Tape tape) {
            tape.next();
            return tape.kind == NAME || failed(tape, FAULT_TOKEN);
        }

        private boolean readNumber(Tape tape, int least, int most, int[] into, int at) {
            tape.next();
            if (tape.kind != NUMBER) {
                return failed(tape, FAULT_TOKEN);
            }
            if (tape.value < least || tape.value > most) {
                return failed(tape, FAULT_TOO_MUCH);
            }
            if (at >= 0 && at < into.length) {
                into[at] = tape.value;
            }
            return true;
        }

        private boolean readSemicolon(Tape tape) {
            tape.next();
            return tape.kind == SEMICOLON || failed(tape, FAULT_TOKEN);
        }

        /** Always false, so that a reader can end with it. */
        private boolean failed(Tape tape, int fault) {
            code = fault;
            place = tape.place;
            return false;
        }
    }

    /** Lets one tick go by in a row. */
    private static final class Ticker {
        /** Cells of each flow that each link carries; behind arrive(): that came to its queue. */
        private final int[] moved = new int[MAX_LINKS * MAX_FLOWS];
        private final int[] left = new int[MAX_FLOWS];
        private final int[] sent = new int[MAX_FLOWS];

        void step(Plan plan, int[] row) {
            for (int f = 0; f < plan.flowCount; f++) {
                sent[f] = 0;
                if (row[ON + f] == 1) {
                    row[CREDIT + f] = Math.min(MAX_CREDIT, row[CREDIT + f] + row[RATE + f]);
                }
            }
            // No two links take from the same cells, and none arrive before all have carried:
            // so links may carry one by one, each as all stood at first.
            for (int l = 0; l < plan.linkCount; l++) {
                carry(plan, row, l);
            }
            for (int l = 0; l < plan.linkCount; l++) {
                if (row[CARRIED + l] > 0) {
                    arrive(plan, row, l);
                }
                ask(row, l);
            }
            // A notice touches no queue: each can be obeyed before the next link is sampled.
            for (int l = 0; l < plan.linkCount; l++) {
                if (row[CARRIED + l] > 0) {
                    sample(plan, row, l);
                }
            }
            for (int f = 0; f < plan.flowCount; f++) {
                if (row[ON + f] == 1) {
                    recover(plan, row, f);
                }
            }
            row[TICK]++;
        }

        /** Cells that came to a link's queue in the latest tick. */
        int cameTo(Plan plan, int link) {
            return sum(moved, link * MAX_FLOWS, plan.flowCount);
        }

        private void carry(Plan plan, int[] row, int link) {
            int base = link * MAX_FLOWS;
            boolean paused = plan.isPaused(row, link);
            int all = 0;
            for (int f = 0; f < plan.flowCount; f++) {
                moved[base + f] = 0;
                left[f] = paused ? 0 : ready(row, plan.linkAhead[base + f], f);
                all += left[f];
            }
            row[CARRIED + link] = Math.min(all, plan.caps[link]);
            if (all == 0) {
                return;
            }
            takeTurns(base, plan.flowCount, row[CARRIED + link]);
            for (int f = 0; f < plan.flowCount; f++) {
                if (moved[base + f] > 0) {
                    takeOff(row, plan.linkAhead[base + f], f, moved[base + f]);
                }
            }
        }

        private static int ready(int[] row, int from, int flow) {
            if (from >= 0) {
                return row[CELLS + from * MAX_FLOWS + flow];
            }
            return from == SOURCE ? row[CREDIT + flow] / PARTS_OF_A_CELL : 0;
        }

        /** Many rounds at once: until a flow has no more, or fewer are wanted than a round gives. */
        private void takeTurns(int base, int flows, int cells) {
            int wanted = cells;
            for (int turns = 0; turns < MAX_FLOWS + 2 && wanted > 0; turns++) {
                int givers = 0;
                int rounds = wanted;
                for (int f = 0; f < flows; f++) {
                    if (left[f] > 0) {
                        givers++;
                        rounds = Math.min(rounds, left[f]);
                    }
                }
                if (givers == 0) {
                    return;
                }
                rounds = Math.min(rounds, wanted / givers);
                wanted -= rounds == 0 ? giveEach(base, flows, 1, wanted) : giveEach(base, flows, rounds, givers);
            }
        }

        /** The first so many flows that have cells left give so many each: how many in all. */
        private int giveEach(int base, int flows, int cells, int givers) {
            int given = 0;
            for (int f = 0; f < flows && given < givers; f++) {
                if (left[f] > 0) {
                    left[f] -= cells;
                    moved[base + f] += cells;
                    given++;
                }
            }
            return given * cells;
        }

        private void takeOff(int[] row, int from, int flow, int cells) {
            if (from >= 0) {
                row[CELLS + from * MAX_FLOWS + flow] -= cells;
                row[FILL + from] -= cells;
            } else {
                row[CREDIT + flow] -= cells * PARTS_OF_A_CELL;
                row[SENT + flow] += cells;
                sent[flow] = cells;
            }
        }

        private void arrive(Plan plan, int[] row, int link) {
            int base = link * MAX_FLOWS;
            for (int f = 0; f < plan.flowCount; f++) {
                int cells = moved[base + f];
                if (cells > 0 && plan.linkBehind[base + f] == NONE) {
                    row[DELIVERED + f] += cells;
                    moved[base + f] = 0;
                } else if (cells > 0) {
                    // A size that was made less may lie below what the queue has.
                    int room = Math.max(0, row[SIZE + link] - row[FILL + link]);
                    int in = Math.min(cells, room);
                    row[CELLS + base + f] += in;
                    row[FILL + link] += in;
                    row[LINK_LOST + link] += cells - in;
                    row[FLOW_LOST + f] += cells - in;
                    moved[base + f] = in;
                }
            }
            row[GREATEST + link] = Math.max(row[GREATEST + link], row[FILL + link]);
        }

        private static void ask(int[] row, int link) {
            int asked = row[ASKED + link] & 1;
            if (row[FILL + link] >= row[XOFF + link]) {
                asked = 1;
            } else if (row[FILL + link] <= row[XON + link]) {
                asked = 0;
            }
            row[ASKED + link] = (row[ASKED + link] << 1 | asked) & ASKED_BITS;
        }

        private void sample(Plan plan, int[] row, int link) {
            int base = link * MAX_FLOWS;
            int each = plan.settings[EACH];
            int met = NONE;
            int counted = row[COUNTED + link];
            for (int f = 0; f < plan.flowCount; f++) {
                counted += moved[base + f];
                if (met == NONE && counted >= each) {
                    met = f;
                }
            }
            row[COUNTED + link] = counted;
            if (met == NONE || each <= 0) {
                return;
            }
            row[COUNTED + link] = counted % each;
            row[SAMPLES + link]++;
            int notice = plan.noticeOf(plan.feedbackOf(row, link));
            row[FILL_AT_SAMPLE + link] = row[FILL + link];
            if (notice > 0) {
                row[LINK_NOTICES + link]++;
                obey(row, met, notice);
            }
        }

        private static void obey(int[] row, int flow, int notice) {
            int rate = row[RATE + flow];
            row[FLOW_NOTICES + flow]++;
            row[TARGET + flow] = rate;
            row[RATE + flow] = Math.max(1, rate - rate * notice / 128);
            row[STAGE_BY_CELLS + flow] = 0;
            row[STAGE_BY_TICKS + flow] = 0;
            row[COUNT_OF_CELLS + flow] = 0;
            row[COUNT_OF_TICKS + flow] = 0;
        }

        private void recover(Plan plan, int[] row, int flow) {
            int cells = row[COUNT_OF_CELLS + flow] + sent[flow];
            int stage = plan.settings[STAGE_CELLS];
            while (stage > 0 && cells >= stage) {
                cells -= stage;
                row[STAGE_BY_CELLS + flow]++;
                climb(plan, row, flow);
            }
            row[COUNT_OF_CELLS + flow] = cells;
            row[COUNT_OF_TICKS + flow]++;
            if (row[COUNT_OF_TICKS + flow] == plan.settings[STAGE_TICKS]) {
                row[COUNT_OF_TICKS + flow] = 0;
                row[STAGE_BY_TICKS + flow]++;
                climb(plan, row, flow);
            }
        }

        private static void climb(Plan plan, int[] row, int flow) {
            int lesser = Math.min(row[STAGE_BY_CELLS + flow], row[STAGE_BY_TICKS + flow]);
            int greater = Math.max(row[STAGE_BY_CELLS + flow], row[STAGE_BY_TICKS + flow]);
            int target = row[TARGET + flow];
            if (lesser > 5) {
                target += plan.settings[MORE] * 2 * (lesser - 5);
            } else if (greater > 5) {
                target += plan.settings[MORE];
            }
            row[TARGET + flow] = Math.min(MAX_RATE, target);
            row[RATE + flow] = (row[RATE + flow] + row[TARGET + flow]) / 2;
        }
    }

    /** Which links wait for which, and the cycles among them. */
    private static final class Waits {
        /** For each link those that it waits for, as bits. */
        private final int[] nexts = new int[MAX_LINKS];
        /** For each link those that a row of waits leads to, as bits. */
        private final int[] reached = new int[MAX_LINKS];
        /** For each link how many waits lead to where the cycle begins, NONE if none do. */
        private final int[] far = new int[MAX_LINKS];
        private final int[] ring = new int[MAX_LINKS];
        private int ringLength = 0;

        int waitsOf(Plan plan, int[] row, int link) {
            if ((row[ASKED + link] & 1) == 0) {
                return 0;
            }
            int bits = 0;
            for (int f = 0; f < plan.flowCount; f++) {
                int next = plan.linkBehind[link * MAX_FLOWS + f];
                if (next >= 0 && row[CELLS + link * MAX_FLOWS + f] > 0 && (row[ASKED + next] & 1) == 1) {
                    bits |= 1 << next;
                }
            }
            return bits;
        }

        int inPauseCycles(Plan plan, int[] row) {
            int waiting = 0;
            for (int l = 0; l < plan.linkCount; l++) {
                nexts[l] = waitsOf(plan, row, l);
                waiting |= nexts[l];
            }
            // Most ticks have no waits at all.
            return waiting == 0 ? 0 : inCyclesOf(plan.linkCount);
        }

        int inPossibleCycles(Plan plan) {
            for (int l = 0; l < plan.linkCount; l++) {
                nexts[l] = 0;
                for (int f = 0; f < plan.flowCount; f++) {
                    int next = plan.linkBehind[l * MAX_FLOWS + f];
                    if (next >= 0) {
                        nexts[l] |= 1 << next;
                    }
                }
            }
            return inCyclesOf(plan.linkCount);
        }

        /** A link lies in a cycle if it leads to itself. */
        private int inCyclesOf(int links) {
            for (int l = 0; l < links; l++) {
                reached[l] = nexts[l];
            }
            for (int by = 0; by < links; by++) {
                for (int l = 0; l < links; l++) {
                    if ((reached[l] >> by & 1) == 1) {
                        reached[l] |= reached[by];
                    }
                }
            }
            int bits = 0;
            for (int l = 0; l < links; l++) {
                bits |= reached[l] & 1 << l;
            }
            return bits;
        }

        /** Leaves the first pause cycle in ring; a ring of length 0 if there is none. */
        void findFirst(Plan plan, int[] row) {
            ringLength = 0;
            int bits = inPauseCycles(plan, row);
            if (bits == 0) {
                return;
            }
            int start = leastOf(bits);
            measure(start, plan.linkCount);
            int at = start;
            for (int i = 0; i < plan.linkCount && at != NONE; i++) {
                ring[i] = at;
                ringLength = i + 1;
                at = nearestNext(at, plan.linkCount);
                if (at == start) {
                    return;
                }
            }
        }

        private static int leastOf(int bits) {
            for (int l = 0; l < MAX_LINKS; l++) {
                if ((bits >> l & 1) == 1) {
                    return l;
                }
            }
            return 0;
        }

        private void measure(int start, int links) {
            for (int l = 0; l < links; l++) {
                far[l] = l == start ? 0 : NONE;
            }
            int near = 1 << start;
            for (int steps = 1; steps < links; steps++) {
                int found = 0;
                for (int l = 0; l < links; l++) {
                    if (far[l] == NONE && (nexts[l] & near) != 0) {
                        far[l] = steps;
                        found |= 1 << l;
                    }
                }
                near |= found;
            }
        }

        /** Of the links that a link waits for the one nearest to the start, the least of several. */
        private int nearestNext(int link, int links) {
            int best = NONE;
            for (int l = 0; l < links; l++) {
                if ((nexts[link] >> l & 1) == 1 && far[l] != NONE && (best == NONE || far[l] < far[best])) {
                    best = l;
                }
            }
            return best;
        }

        int witnessOf(Plan plan, int[] row, int i) {
            int link = ring[i];
            int next = ring[i + 1 < ringLength ? i + 1 : 0];
            for (int f = 0; f < plan.flowCount; f++) {
                if (plan.linkBehind[link * MAX_FLOWS + f] == next && row[CELLS + link * MAX_FLOWS + f] > 0) {
                    return f;
                }
            }
            return NOT_THERE;
        }
    }

    /**
     * The fair rates, all over one lower number. It stays below 19: the flows held at one time
     * are as many as the number it is multiplied by then, and all of them are at most eight.
     */
    private static final class Shares {
        private final int[] parts = new int[MAX_FLOWS];
        private final boolean[] held = new boolean[MAX_FLOWS];
        private int lowerNumber = 1;
        /** Of the latest link looked at: the parts that are free, and the flows that still grow. */
        private int free = 0;
        private int growing = 0;

        void share(Plan plan, int[] row) {
            lowerNumber = 1;
            for (int f = 0; f < plan.flowCount; f++) {
                parts[f] = 0;
                held[f] = row[ON + f] == 0;
            }
            for (int i = 0; i < MAX_FLOWS; i++) {
                int link = firstToFill(plan);
                if (link == NONE) {
                    return;
                }
                hold(plan, link);
            }
        }

        private int firstToFill(Plan plan) {
            int first = NONE;
            int leastFree = 0;
            int itsGrowing = 1;
            for (int l = 0; l < plan.linkCount; l++) {
                lookAt(plan, l);
                if (growing > 0 && (first == NONE || free * itsGrowing < leastFree * growing)) {
                    first = l;
                    leastFree = free;
                    itsGrowing = growing;
                }
            }
            return first;
        }

        private void lookAt(Plan plan, int link) {
            free = plan.caps[link] * lowerNumber;
            growing = 0;
            for (int f = 0; f < plan.flowCount; f++) {
                if (plan.linkAhead[link * MAX_FLOWS + f] == OFF_WAY) {
                    continue;
                }
                if (held[f]) {
                    free -= parts[f];
                } else {
                    growing++;
                }
            }
        }

        private void hold(Plan plan, int link) {
            lookAt(plan, link);
            lowerNumber *= growing;
            for (int f = 0; f < plan.flowCount; f++) {
                if (held[f]) {
                    parts[f] *= growing;
                } else if (plan.linkAhead[link * MAX_FLOWS + f] != OFF_WAY) {
                    parts[f] = free;
                    held[f] = true;
                }
            }
        }

        boolean fills(Plan plan, int link) {
            lookAt(plan, link);
            return free == 0;
        }

        int upper(int flow) {
            int by = common(flow);
            return by > 1 ? parts[flow] / by : parts[flow];
        }

        int lower(int flow) {
            int by = common(flow);
            return by > 1 ? lowerNumber / by : lowerNumber;
        }

        /** The greatest number that divides both, 1 at least. */
        private int common(int flow) {
            int a = Math.max(1, lowerNumber);
            int b = parts[flow];
            for (int i = 0; i < 64 && b > 0; i++) {
                int rest = a % b;
                a = b;
                b = rest;
            }
            return a;
        }
    }

    /** The rows to go back to: those that can be undone, and the image. */
    private static final class Past {
        private final int[] rows = new int[MAX_UNDONE * ROW];
        private final int[] image = new int[ROW];
        private boolean hasImage = false;
        private int steps = 0;
        /** Where the next row goes: the places are used in turn, the oldest row gives way. */
        private int top = 0;

        void push(int[] row) {
            System.arraycopy(row, 0, rows, top * ROW, ROW);
            top = top + 1 < MAX_UNDONE ? top + 1 : 0;
            steps = Math.min(MAX_UNDONE, steps + 1);
        }

        void pop(int[] row) {
            top = top > 0 ? top - 1 : MAX_UNDONE - 1;
            steps = Math.max(0, steps - 1);
            System.arraycopy(rows, top * ROW, row, 0, ROW);
        }

        void forgetSteps() {
            steps = 0;
            top = 0;
        }
    }
}
