import java.math.BigInteger;
import java.util.ArrayDeque;
import java.util.ArrayList;
import java.util.HashMap;
import java.util.List;
import java.util.Map;
import java.util.TreeSet;
import java.util.regex.Matcher;
import java.util.regex.Pattern;

/**
 * The document a second time, as slowly and as close to its words as can be: cell by cell, round
 * by round, every size tried, every cycle listed. Shares no line and no idea with the class.
 */
final class Model {
    static final class Link {
        String name;
        int cap, delay, xoff, xon, size;
        int lost, greatest, samples, notices, carried, counted, fillAtSample;
        Map<Integer, Integer> cells = new HashMap<>();
        List<Boolean> asked = new ArrayList<>();

        int fill() {
            int all = 0;
            for (int n : cells.values()) {
                all += n;
            }
            return all;
        }

        boolean asks() {
            return !asked.isEmpty() && asked.get(asked.size() - 1);
        }

        /** In the tick that comes. */
        boolean paused() {
            int i = asked.size() - 1 - delay;
            return i >= 0 && asked.get(i);
        }

        Link copy() {
            Link l = new Link();
            l.name = name;
            l.cap = cap;
            l.delay = delay;
            l.xoff = xoff;
            l.xon = xon;
            l.size = size;
            l.lost = lost;
            l.greatest = greatest;
            l.samples = samples;
            l.notices = notices;
            l.carried = carried;
            l.counted = counted;
            l.fillAtSample = fillAtSample;
            l.cells = new HashMap<>(cells);
            l.asked = new ArrayList<>(asked);
            return l;
        }
    }

    static final class Flow {
        String name;
        int rate, target, stage0, stage1, sent, delivered, lost, notices, credit, countCells, countTicks;
        boolean on = true;
        List<Integer> path = new ArrayList<>();

        Flow copy() {
            Flow f = new Flow();
            f.name = name;
            f.rate = rate;
            f.target = target;
            f.stage0 = stage0;
            f.stage1 = stage1;
            f.sent = sent;
            f.delivered = delivered;
            f.lost = lost;
            f.notices = notices;
            f.credit = credit;
            f.countCells = countCells;
            f.countTicks = countTicks;
            f.on = on;
            f.path = path;
            return f;
        }
    }

    /** All that an image keeps. */
    static final class State {
        List<Link> links = new ArrayList<>();
        List<Flow> flows = new ArrayList<>();
        int each = 20, middle = 26, weight = 2, cells = 50, ticks = 10, more = 4, seed = 0, tick = 0;

        State copy() {
            State s = new State();
            for (Link l : links) {
                s.links.add(l.copy());
            }
            for (Flow f : flows) {
                s.flows.add(f.copy());
            }
            s.each = each;
            s.middle = middle;
            s.weight = weight;
            s.cells = cells;
            s.ticks = ticks;
            s.more = more;
            s.seed = seed;
            s.tick = tick;
            return s;
        }

        void step() {
            for (Flow f : flows) {
                if (f.on) {
                    f.credit = Math.min(1024, f.credit + f.rate);
                }
            }
            int[][] carried = carry();
            int[] sentNow = new int[flows.size()];
            for (int l = 0; l < links.size(); l++) {
                links.get(l).carried = 0;
                for (int f = 0; f < flows.size(); f++) {
                    Flow flow = flows.get(f);
                    links.get(l).carried += carried[l][f];
                    int hop = flow.path.indexOf(l);
                    if (hop == 0) {
                        flow.credit -= 16 * carried[l][f];
                        flow.sent += carried[l][f];
                        sentNow[f] = carried[l][f];
                    } else if (hop > 0) {
                        links.get(flow.path.get(hop - 1)).cells.merge(f, -carried[l][f], Integer::sum);
                    }
                }
            }
            int[][] came = arrive(carried);
            for (Link l : links) {
                boolean ask = l.asks();
                if (l.fill() >= l.xoff) {
                    ask = true;
                } else if (l.fill() <= l.xon) {
                    ask = false;
                }
                l.asked.add(ask);
            }
            for (int[] notice : sample(came)) {
                Flow f = flows.get(notice[0]);
                f.notices++;
                f.target = f.rate;
                f.rate = Math.max(1, f.rate - (int) Math.floor(f.rate * notice[1] / 128.0));
                f.stage0 = f.stage1 = f.countCells = f.countTicks = 0;
            }
            for (int f = 0; f < flows.size(); f++) {
                if (flows.get(f).on) {
                    recover(flows.get(f), sentNow[f]);
                }
            }
            tick++;
        }

        private int[][] carry() {
            int[][] can = new int[links.size()][flows.size()];
            for (int l = 0; l < links.size(); l++) {
                for (int f = 0; f < flows.size(); f++) {
                    int hop = flows.get(f).path.indexOf(l);
                    if (hop == 0) {
                        can[l][f] = flows.get(f).credit / 16;
                    } else if (hop > 0) {
                        can[l][f] = links.get(flows.get(f).path.get(hop - 1)).cells.getOrDefault(f, 0);
                    }
                }
            }
            int[][] carried = new int[links.size()][flows.size()];
            for (int l = 0; l < links.size(); l++) {
                int come = 0;
                boolean any = !links.get(l).paused();
                while (any) {
                    any = false;
                    for (int f = 0; f < flows.size(); f++) {
                        if (can[l][f] > 0 && come < links.get(l).cap) {
                            can[l][f]--;
                            carried[l][f]++;
                            come++;
                            any = true;
                        }
                    }
                }
            }
            return carried;
        }

        private int[][] arrive(int[][] carried) {
            int[][] came = new int[links.size()][flows.size()];
            for (int l = 0; l < links.size(); l++) {
                Link link = links.get(l);
                for (int f = 0; f < flows.size(); f++) {
                    Flow flow = flows.get(f);
                    for (int cell = 0; cell < carried[l][f]; cell++) {
                        if (flow.path.get(flow.path.size() - 1) == l) {
                            flow.delivered++;
                        } else if (link.fill() + 1 > link.size) {
                            link.lost++;
                            flow.lost++;
                        } else {
                            link.cells.merge(f, 1, Integer::sum);
                            came[l][f]++;
                        }
                    }
                }
                link.greatest = Math.max(link.greatest, link.fill());
            }
            return came;
        }

        private List<int[]> sample(int[][] came) {
            List<int[]> notices = new ArrayList<>();
            for (int l = 0; l < links.size(); l++) {
                Link link = links.get(l);
                int met = -1;
                for (int f = 0; f < flows.size(); f++) {
                    for (int cell = 0; cell < came[l][f]; cell++) {
                        link.counted++;
                        if (link.counted == each && met < 0) {
                            met = f;
                        }
                    }
                }
                if (met < 0) {
                    continue;
                }
                while (link.counted >= each) {
                    link.counted -= each;
                }
                link.samples++;
                int notice = notice(link);
                link.fillAtSample = link.fill();
                if (notice > 0) {
                    link.notices++;
                    notices.add(new int[] {met, notice});
                }
            }
            return notices;
        }

        int feedback(Link link) {
            return link.fill() - middle + weight * (link.fill() - link.fillAtSample);
        }

        int notice(Link link) {
            int feedback = feedback(link);
            if (feedback <= 0) {
                return 0;
            }
            int notice = 0;
            while ((notice + 1) * middle * (1 + 2 * weight) <= feedback * 64) {
                notice++;
            }
            return notice < 1 ? 1 : notice > 63 ? 63 : notice;
        }

        private void recover(Flow f, int sent) {
            f.countCells += sent;
            while (f.countCells >= cells) {
                f.countCells -= cells;
                f.stage0++;
                climb(f);
            }
            f.countTicks++;
            if (f.countTicks == ticks) {
                f.countTicks = 0;
                f.stage1++;
                climb(f);
            }
        }

        private void climb(Flow f) {
            if (f.stage0 > 5 && f.stage1 > 5) {
                f.target += more * 2 * (Math.min(f.stage0, f.stage1) - 5);
            } else if (f.stage0 > 5 || f.stage1 > 5) {
                f.target += more;
            }
            if (f.target > 1024) {
                f.target = 1024;
            }
            f.rate = (f.rate + f.target) / 2;
        }

        boolean waits(int a, int b) {
            return a != b && links.get(a).asks() && links.get(b).asks() && !by(a, b).isEmpty();
        }

        /** The flows that have cells in the queue of a which go on by b. */
        TreeSet<Integer> by(int a, int b) {
            TreeSet<Integer> set = new TreeSet<>();
            for (int f = 0; f < flows.size(); f++) {
                int hop = flows.get(f).path.indexOf(a);
                if (hop >= 0 && hop + 1 < flows.get(f).path.size() && flows.get(f).path.get(hop + 1) == b
                    && links.get(a).cells.getOrDefault(f, 0) > 0) {
                    set.add(f);
                }
            }
            return set;
        }

        boolean mayWait(int a, int b) {
            for (Flow f : flows) {
                for (int i = 0; i + 1 < f.path.size(); i++) {
                    if (f.path.get(i) == a && f.path.get(i + 1) == b) {
                        return true;
                    }
                }
            }
            return false;
        }

        /** All cycles, each from each of its links on, by the lengths and then by the numbers. */
        List<List<Integer>> cycles(boolean may) {
            List<List<Integer>> found = new ArrayList<>();
            for (int l = 0; l < links.size(); l++) {
                List<Integer> way = new ArrayList<>();
                way.add(l);
                walk(way, found, may);
            }
            found.sort((p, q) -> {
                if (p.size() != q.size()) {
                    return p.size() - q.size();
                }
                for (int i = 0; i < p.size(); i++) {
                    if (!p.get(i).equals(q.get(i))) {
                        return p.get(i) - q.get(i);
                    }
                }
                return 0;
            });
            return found;
        }

        private void walk(List<Integer> way, List<List<Integer>> found, boolean may) {
            int last = way.get(way.size() - 1);
            for (int next = 0; next < links.size(); next++) {
                if (!(may ? mayWait(last, next) : waits(last, next))) {
                    continue;
                }
                if (next == way.get(0)) {
                    found.add(new ArrayList<>(way));
                } else if (!way.contains(next)) {
                    way.add(next);
                    walk(way, found, may);
                    way.remove(way.size() - 1);
                }
            }
        }

        List<Integer> firstCycle() {
            List<List<Integer>> all = cycles(false);
            int least = 99;
            for (List<Integer> c : all) {
                least = Math.min(least, c.get(0));
            }
            for (List<Integer> c : all) {
                if (c.get(0) == least) {
                    return c;
                }
            }
            return new ArrayList<>();
        }

        int total(String what) {
            int all = 0;
            for (Flow f : flows) {
                all += what.equals("delivered") ? f.delivered : what.equals("sent") ? f.sent : 0;
            }
            for (Link l : links) {
                all += what.equals("lost") ? l.lost : what.equals("notices") ? l.notices : 0;
            }
            return all;
        }

        /** Upper and lower number for each flow. */
        BigInteger[][] fair() {
            int n = flows.size();
            BigInteger[][] share = new BigInteger[n][];
            for (int f = 0; f < n; f++) {
                share[f] = flows.get(f).on ? null : new BigInteger[] {BigInteger.ZERO, BigInteger.ONE};
            }
            while (true) {
                BigInteger[] level = null;
                for (int l = 0; l < links.size(); l++) {
                    BigInteger[] at = fillsAt(l, share);
                    if (at != null && (level == null || at[0].multiply(level[1]).compareTo(level[0].multiply(at[1])) < 0)) {
                        level = at;
                    }
                }
                if (level == null) {
                    return share;
                }
                List<Integer> stay = new ArrayList<>();
                for (int l = 0; l < links.size(); l++) {
                    BigInteger[] at = fillsAt(l, share);
                    if (at != null && at[0].multiply(level[1]).equals(level[0].multiply(at[1]))) {
                        for (int f = 0; f < n; f++) {
                            if (share[f] == null && flows.get(f).path.contains(l)) {
                                stay.add(f);
                            }
                        }
                    }
                }
                for (int f : stay) {
                    share[f] = least(level);
                }
            }
        }

        /** The level at which a link is full, null if no flow on it grows. */
        private BigInteger[] fillsAt(int l, BigInteger[][] share) {
            BigInteger[] free = {BigInteger.valueOf(links.get(l).cap), BigInteger.ONE};
            int growing = 0;
            for (int f = 0; f < flows.size(); f++) {
                if (flows.get(f).path.contains(l)) {
                    if (share[f] == null) {
                        growing++;
                    } else {
                        free = minus(free, share[f]);
                    }
                }
            }
            return growing == 0 ? null : least(new BigInteger[] {free[0], free[1].multiply(BigInteger.valueOf(growing))});
        }

        boolean filled(int l) {
            BigInteger[][] share = fair();
            BigInteger[] free = {BigInteger.valueOf(links.get(l).cap), BigInteger.ONE};
            for (int f = 0; f < flows.size(); f++) {
                if (flows.get(f).path.contains(l)) {
                    free = minus(free, share[f]);
                }
            }
            return free[0].signum() == 0;
        }

        private static BigInteger[] minus(BigInteger[] a, BigInteger[] b) {
            return least(new BigInteger[] {a[0].multiply(b[1]).subtract(b[0].multiply(a[1])), a[1].multiply(b[1])});
        }

        private static BigInteger[] least(BigInteger[] a) {
            BigInteger g = a[0].gcd(a[1]);
            return new BigInteger[] {a[0].divide(g), a[1].divide(g)};
        }
    }

    State now = new State();
    State image = null;
    ArrayDeque<State> past = new ArrayDeque<>();
    StringBuilder tape = new StringBuilder();
    int fault = 0;
    int place = -1;

    private boolean link(int l) {
        return l >= 0 && l < now.links.size();
    }

    private boolean flow(int f) {
        return f >= 0 && f < now.flows.size();
    }

    private void remember() {
        past.addLast(now.copy());
        if (past.size() > 20) {
            past.removeFirst();
        }
    }

    int feed(int[] five) {
        if (tape.length() + 20 > 700) {
            return -1;
        }
        for (int n : five) {
            for (int i = 3; i >= 0; i--) {
                tape.append((char) (n >>> 8 * i & 255));
            }
        }
        return tape.length();
    }

    int text(int n) {
        if (n < 0 || n > tape.length()) {
            return -2;
        }
        String text = tape.substring(0, n);
        tape.setLength(0);
        State read = new State();
        int[] fault = {0, -1, 0};
        read(text, read, fault);
        this.fault = fault[0];
        place = fault[1];
        if (fault[0] != 0) {
            return -1;
        }
        now = read;
        image = null;
        past.clear();
        return fault[2];
    }

    /** The form of each line: k a word of the language, w a name, n a number, * names till the end. */
    private static final Map<String, String> FORMS = Map.of("link", "wnnnnn", "flow", "wnw*", "sample", "nnn",
        "stage", "nnn", "off", "w", "seed", "n");
    private static final int[][] LINK_BOUNDS = {{1, 64}, {0, 4}, {1, 999}, {0, 998}, {1, 1999}};
    private static final Map<String, int[][]> BOUNDS = Map.of("link", LINK_BOUNDS, "flow", new int[][] {{1, 1024}},
        "sample", new int[][] {{1, 999}, {1, 500}, {0, 4}}, "stage", new int[][] {{1, 999}, {1, 99}, {1, 99}},
        "off", new int[0][], "seed", new int[][] {{0, 99999}});

    /** All tokens first, then line by line, then each line is put into the state. */
    private static void read(String text, State s, int[] fault) {
        List<String> tokens = new ArrayList<>();
        List<Integer> places = new ArrayList<>();
        Matcher m = Pattern.compile("[a-z]+|[0-9]+|[^ \n]", Pattern.DOTALL).matcher(text);
        while (m.find()) {
            tokens.add(m.group());
            places.add(m.start());
        }
        tokens.add("");
        places.add(text.length());
        TreeSet<String> told = new TreeSet<>();
        int i = 0;
        while (!tokens.get(i).isEmpty()) {
            String word = tokens.get(i);
            int at = places.get(i);
            if (!FORMS.containsKey(word)) {
                set(fault, 1, at);
                return;
            }
            if (word.equals("link") && s.links.size() == 10 || word.equals("flow") && s.flows.size() == 8) {
                set(fault, 2, at);
                return;
            }
            if (!word.equals("link") && !word.equals("flow") && !word.equals("off") && !told.add(word)) {
                set(fault, 3, at);
                return;
            }
            i++;
            List<String> names = new ArrayList<>();
            List<Integer> numbers = new ArrayList<>();
            String form = FORMS.get(word);
            int k = 0;
            while (k < form.length()) {
                String t = tokens.get(i);
                int here = places.get(i);
                char want = form.charAt(k);
                if (want == '*' && t.equals(";")) {
                    break;
                }
                if (want == 'n') {
                    if (!t.matches("[0-9]+")) {
                        set(fault, 1, here);
                        return;
                    }
                    BigInteger value = new BigInteger(t);
                    int[] bound = BOUNDS.get(word)[numbers.size()];
                    if (value.compareTo(BigInteger.valueOf(bound[0])) < 0 || value.compareTo(BigInteger.valueOf(bound[1])) > 0) {
                        set(fault, 2, here);
                        return;
                    }
                    numbers.add(value.intValue());
                    if (word.equals("link") && numbers.size() == 4 && numbers.get(3) >= numbers.get(2)) {
                        set(fault, 2, here);
                        return;
                    }
                } else {
                    if (!t.matches("[a-z]{1,6}") || FORMS.containsKey(t)) {
                        set(fault, 1, here);
                        return;
                    }
                    int code = name(word, t, names, s);
                    if (code != 0) {
                        set(fault, code, here);
                        return;
                    }
                    names.add(t);
                }
                i++;
                if (want != '*') {
                    k++;
                }
            }
            if (!tokens.get(i).equals(";")) {
                set(fault, 1, places.get(i));
                return;
            }
            i++;
            fault[2]++;
            put(word, names, numbers, s);
        }
    }

    private static void set(int[] fault, int code, int place) {
        fault[0] = code;
        fault[1] = place;
    }

    private static int find(List<?> all, String name) {
        for (int i = 0; i < all.size(); i++) {
            Object o = all.get(i);
            if ((o instanceof Link ? ((Link) o).name : ((Flow) o).name).equals(name)) {
                return i;
            }
        }
        return -1;
    }

    /** What is wrong with a name where it stands: 0 nothing. */
    private static int name(String word, String name, List<String> names, State s) {
        if (word.equals("link")) {
            return find(s.links, name) >= 0 ? 3 : 0;
        }
        if (word.equals("off")) {
            int f = find(s.flows, name);
            return f < 0 ? 4 : s.flows.get(f).on ? 0 : 3;
        }
        if (names.isEmpty()) {
            return find(s.flows, name) >= 0 ? 3 : 0;
        }
        if (names.size() == 6) {
            return 2;
        }
        if (names.subList(1, names.size()).contains(name)) {
            return 3;
        }
        return find(s.links, name) < 0 ? 4 : 0;
    }

    private static void put(String word, List<String> names, List<Integer> n, State s) {
        switch (word) {
            case "link" -> {
                Link l = new Link();
                l.name = names.get(0);
                l.cap = n.get(0);
                l.delay = n.get(1);
                l.xoff = n.get(2);
                l.xon = n.get(3);
                l.size = n.get(4);
                s.links.add(l);
            }
            case "flow" -> {
                Flow f = new Flow();
                f.name = names.get(0);
                f.rate = f.target = n.get(0);
                for (String name : names.subList(1, names.size())) {
                    f.path.add(find(s.links, name));
                }
                s.flows.add(f);
            }
            case "sample" -> {
                s.each = n.get(0);
                s.middle = n.get(1);
                s.weight = n.get(2);
            }
            case "stage" -> {
                s.cells = n.get(0);
                s.ticks = n.get(1);
                s.more = n.get(2);
            }
            case "off" -> s.flows.get(find(s.flows, names.get(0))).on = false;
            default -> s.seed = n.get(0);
        }
    }

    int fault(int what) {
        return what == 0 ? fault : what == 1 ? place : -1;
    }

    int named(int kind, int letters) {
        List<?> all = kind == 0 ? now.links : kind == 1 ? now.flows : List.of();
        for (int i = 0; i < all.size(); i++) {
            Object o = all.get(i);
            if (Due.letters(o instanceof Link ? ((Link) o).name : ((Flow) o).name) == letters) {
                return i;
            }
        }
        return -1;
    }

    int tick(int n) {
        if (n < 1 || n > 50) {
            return -1;
        }
        if (now.tick + n > 9999) {
            return -2;
        }
        remember();
        for (int i = 0; i < n; i++) {
            now.step();
        }
        return now.tick;
    }

    int rate(int f, int r) {
        if (!flow(f) || r < 1 || r > 1024) {
            return -1;
        }
        remember();
        int was = now.flows.get(f).rate;
        now.flows.get(f).rate = r;
        now.flows.get(f).target = r;
        return was;
    }

    int turn(int f) {
        if (!flow(f)) {
            return -1;
        }
        remember();
        now.flows.get(f).on = !now.flows.get(f).on;
        return now.flows.get(f).on ? 1 : 0;
    }

    boolean bounds(int l, int xoff, int xon) {
        if (!link(l) || xoff < 1 || xoff > 999 || xon < 0 || xon > 998 || xon >= xoff) {
            return false;
        }
        remember();
        now.links.get(l).xoff = xoff;
        now.links.get(l).xon = xon;
        return true;
    }

    int size(int l, int n) {
        if (!link(l) || n < 1 || n > 1999) {
            return -1;
        }
        remember();
        int was = now.links.get(l).size;
        now.links.get(l).size = n;
        return was;
    }

    /** -1001: IndexOutOfBoundsException, -1002: NoSuchElementException. */
    int link(int i, int what) {
        if (!link(i)) {
            return -1001;
        }
        if (what < 0 || what > 13) {
            return -1002;
        }
        Link l = now.links.get(i);
        int[] all = {l.cap, l.delay, l.xoff, l.xon, l.size, l.fill(), l.asks() ? 1 : 0, l.paused() ? 1 : 0, l.lost,
            l.greatest, l.samples, l.notices, l.carried, l.counted};
        return all[what];
    }

    int queue(int l, int f) {
        return link(l) && flow(f) ? now.links.get(l).cells.getOrDefault(f, 0) : -1;
    }

    int flow(int i, int what) {
        if (!flow(i) || what < 0 || what > 11) {
            return -1;
        }
        Flow f = now.flows.get(i);
        int[] all = {f.rate, f.target, f.stage0, f.stage1, f.sent, f.delivered, f.notices, f.on ? 1 : 0, f.credit,
            f.path.size(), f.countCells, f.countTicks};
        return all[what];
    }

    int path(int f, int i) {
        return flow(f) && i >= 0 && i < now.flows.get(f).path.size() ? now.flows.get(f).path.get(i) : -1;
    }

    int feedback(int l) {
        return link(l) ? now.feedback(now.links.get(l)) : Integer.MIN_VALUE;
    }

    int notice(int l) {
        return link(l) ? now.notice(now.links.get(l)) : -1;
    }

    int headroom(int l) {
        if (!link(l)) {
            return -1;
        }
        Link k = now.links.get(l);
        return k.xoff - 1 + k.cap * (k.delay + 1);
    }

    int safe() {
        int bits = 0;
        for (int l = 0; l < now.links.size(); l++) {
            bits += headroom(l) <= now.links.get(l).size ? 1 << l : 0;
        }
        return bits;
    }

    int waits(int l) {
        if (!link(l)) {
            return -1;
        }
        int bits = 0;
        for (int k = 0; k < now.links.size(); k++) {
            bits += now.waits(l, k) ? 1 << k : 0;
        }
        return bits;
    }

    int cycle(int i) {
        List<Integer> c = now.firstCycle();
        return i < 0 ? -1 : i < c.size() ? c.get(i) : -2;
    }

    int witness(int i) {
        List<Integer> c = now.firstCycle();
        return i < 0 ? -1 : i < c.size() ? now.by(c.get(i), c.get((i + 1) % c.size())).first() : -2;
    }

    int inCycles(int what) {
        if (what != 0 && what != 1) {
            return -1;
        }
        int bits = 0;
        for (List<Integer> c : now.cycles(what == 1)) {
            for (int l : c) {
                bits |= 1 << l;
            }
        }
        return bits;
    }

    long fair(int f, boolean under) {
        return flow(f) ? now.fair()[f][under ? 1 : 0].longValueExact() : -1;
    }

    int full() {
        int bits = 0;
        for (int l = 0; l < now.links.size(); l++) {
            bits += now.filled(l) ? 1 << l : 0;
        }
        return bits;
    }

    int ahead(int l, int n, int what) {
        if (!link(l) || n < 0 || n > 300 || what < 0 || what > 2) {
            return -1;
        }
        State s = now.copy();
        int most = s.links.get(l).fill();
        for (int i = 0; i < n; i++) {
            s.step();
            most = Math.max(most, s.links.get(l).fill());
        }
        return new int[] {s.links.get(l).fill(), most, s.links.get(l).lost - now.links.get(l).lost}[what];
    }

    int flows(int f, int n, int what) {
        if (!flow(f) || n < 0 || n > 300 || what < 0 || what > 2) {
            return -1;
        }
        State s = now.copy();
        for (int i = 0; i < n; i++) {
            s.step();
        }
        Flow then = s.flows.get(f);
        Flow first = now.flows.get(f);
        return new int[] {then.rate, then.delivered - first.delivered, then.sent - first.sent}[what];
    }

    int stalls() {
        State s = now.copy();
        for (int i = 0; i <= 300; i++) {
            if (!s.cycles(false).isEmpty()) {
                return i;
            }
            s.step();
        }
        return -2;
    }

    int quiet() {
        State s = now.copy();
        for (Flow f : s.flows) {
            f.on = false;
        }
        for (int i = 0; i <= 300; i++) {
            boolean empty = true;
            for (Link l : s.links) {
                empty &= l.fill() == 0;
            }
            if (empty) {
                return i;
            }
            s.step();
        }
        return -2;
    }

    int worst(int n) {
        if (n < 1 || n > 40) {
            return -1;
        }
        int best = -2;
        int most = -1;
        for (int f = 0; f < now.flows.size(); f++) {
            if (!now.flows.get(f).on) {
                continue;
            }
            State s = now.copy();
            s.flows.get(f).on = false;
            for (int i = 0; i < n; i++) {
                s.step();
            }
            int others = 0;
            for (int g = 0; g < now.flows.size(); g++) {
                others += g == f ? 0 : s.flows.get(g).delivered - now.flows.get(g).delivered;
            }
            if (others > most) {
                most = others;
                best = f;
            }
        }
        return best;
    }

    int leastSize(int l, int n) {
        if (!link(l) || n < 1 || n > 100) {
            return -1;
        }
        for (int size = 1; size <= 1999; size++) {
            State s = now.copy();
            s.links.get(l).size = size;
            for (int i = 0; i < n && s.links.get(l).lost == now.links.get(l).lost; i++) {
                s.step();
            }
            if (s.links.get(l).lost == now.links.get(l).lost) {
                return size;
            }
        }
        return -2;
    }

    int onWay(int f) {
        if (!flow(f)) {
            return -1;
        }
        int all = 0;
        for (Link l : now.links) {
            all += l.cells.getOrDefault(f, 0);
        }
        return all;
    }

    int chance(int seed, int n, int p, int what) {
        if (seed < -1 || n < 1 || n > 200 || p < 0 || p > 100 || what < 0 || what > 3) {
            return -1;
        }
        State s = now.copy();
        BigInteger last = BigInteger.valueOf(seed == -1 ? now.seed : seed);
        BigInteger times = BigInteger.valueOf(1103515245);
        BigInteger plus = BigInteger.valueOf(12345);
        BigInteger bits = BigInteger.ONE.shiftLeft(31);
        BigInteger by = BigInteger.valueOf(65536);
        int stalled = 0;
        for (int i = 0; i < n; i++) {
            if (!s.flows.isEmpty()) {
                last = last.multiply(times).add(plus).mod(bits);
                Flow f = s.flows.get(last.divide(by).mod(BigInteger.valueOf(s.flows.size())).intValue());
                last = last.multiply(times).add(plus).mod(bits);
                if (last.divide(by).mod(BigInteger.valueOf(100)).intValue() < p) {
                    f.on = !f.on;
                }
            }
            s.step();
            stalled += s.cycles(false).isEmpty() ? 0 : 1;
        }
        String[] names = {"delivered", "lost", "", "notices"};
        return what == 2 ? stalled : s.total(names[what]) - now.total(names[what]);
    }

    int undo() {
        if (past.isEmpty()) {
            return -1;
        }
        now = past.removeLast();
        return past.size();
    }

    int keep() {
        image = now.copy();
        return now.tick;
    }

    int back() {
        if (image == null) {
            return -1;
        }
        now = image.copy();
        past.clear();
        return now.tick;
    }

    int count(int what) {
        int on = 0;
        for (Flow f : now.flows) {
            on += f.on ? 1 : 0;
        }
        int asked = 0;
        for (Link l : now.links) {
            asked += l.asks() ? 1 : 0;
        }
        int[] all = {now.links.size(), now.flows.size(), now.tick, now.total("sent"), now.total("delivered"),
            now.total("lost"), now.total("notices"), on, asked, past.size(), tape.length()};
        return what >= 0 && what < all.length ? all[what] : -1;
    }
}
