import java.math.BigInteger;
import java.util.ArrayDeque;
import java.util.ArrayList;
import java.util.Deque;
import java.util.List;
import java.util.regex.Matcher;
import java.util.regex.Pattern;

/** The document read a second time, by trying all there is, to be compared with the class. */
final class Model {
    static final int BAD = -1, NO = -2, FULL = -3, NONE = -4;
    static final String FIRST = "w0,5,3;w1,12,2;w2,20,4;w3,8,2;w0,30,6;w0,14,1;m25,12;"
        + "b0,4,2,9,8;b1,9,1,12,12;b2,6,3,25,8;b5,2,5,14,12;";
    private static final Pattern ITEM = Pattern.compile("([wmb])(\\d\\d?(?:,\\d\\d?)*);");

    record Bell(int c, int t, boolean hung, int p, int h) {
        int loud() {
            return t > c ? (2 * c + t) / 2 : 2 * c + t;
        }

        int at(int x) {
            return Math.max(0, loud() - Math.abs(p - x));
        }
    }

    record Wrong(int kind, int x, int n, int times, boolean forgiven, Bell bell) {
        boolean hangs() {
            return bell != null && bell.hung;
        }

        Wrong with(Bell other) {
            return new Wrong(kind, x, n, times, forgiven, other);
        }
    }

    record State(List<Wrong> wrongs, int copper, int tin, int day) {
        Wrong get(int w) {
            return wrongs.get(w);
        }

        int size() {
            return wrongs.size();
        }

        State with(int w, Wrong other) {
            List<Wrong> all = new ArrayList<>(wrongs);
            all.set(w, other);
            return new State(all, copper, tin, day);
        }

        State store(int c, int t) {
            return new State(wrongs, copper + c, tin + t, day);
        }

        State nextDay() {
            return new State(wrongs, copper, tin, day + 1);
        }

        boolean covers(int v, int w) {
            if (v == w || !get(v).hangs() || get(v).bell.h != get(w).bell.h) {
                return false;
            }
            int there = get(v).bell.at(get(w).x);
            return there >= 1 && there >= get(w).bell.at(get(w).x);
        }

        boolean sounds(int w, int onDay) {
            Wrong one = get(w);
            int there = one.bell.at(one.x);
            return switch (one.kind) {
                case 0 -> there >= 1;
                case 1 -> there >= 8;
                case 2 -> there >= 1 && onDay % 2 == 0;
                default -> there >= 1 && one.bell.t == 0;
            };
        }

        boolean heard(int w, int onDay) {
            if (!get(w).hangs() || !sounds(w, onDay)) {
                return false;
            }
            for (int v = 0; v < size(); v++) {
                if (covers(v, w)) {
                    return false;
                }
            }
            return true;
        }

        State ring() {
            State next = this;
            for (int w = 0; w < size(); w++) {
                if (heard(w, day)) {
                    Wrong o = get(w);
                    boolean done = o.times + 1 >= o.n;
                    next = next.with(w, new Wrong(o.kind, o.x, o.n, o.times + 1, done, done ? null : o.bell));
                    next = done ? next.store(o.bell.c, o.bell.t) : next;
                }
            }
            return next.nextDay();
        }

        State melted(int w) {
            Bell b = get(w).bell;
            return with(w, get(w).with(null)).store(b.c, b.t);
        }

        boolean canCast(int w, int c, int t) {
            return get(w).bell == null && !get(w).forgiven && c <= copper && t <= tin;
        }

        State casted(int w, int c, int t) {
            return with(w, get(w).with(new Bell(c, t, false, 0, 0))).store(-c, -t);
        }

        State hung(int w, int p, int h) {
            Bell b = get(w).bell;
            return with(w, get(w).with(new Bell(b.c, b.t, true, p, h)));
        }

        int forgiven() {
            int bits = 0;
            for (int w = 0; w < size(); w++) {
                bits += get(w).forgiven ? 1 << w : 0;
            }
            return bits;
        }
    }

    private StringBuilder text = new StringBuilder();
    private State now;
    private State told;
    private final Deque<State> past = new ArrayDeque<>();
    private final Deque<State> kept = new ArrayDeque<>();
    private final List<int[]> notes = new ArrayList<>();

    Model() {
        text.append(FIRST);
        fault();
        now = told;
        text.setLength(0);
    }

    private static boolean in(int a, int least, int most) {
        return least <= a && a <= most;
    }

    private boolean isW(int w) {
        return in(w, 0, now.size() - 1);
    }

    int write(int letter) {
        if (!in(letter, 32, 126)) {
            return BAD;
        }
        if (text.length() == 200) {
            return FULL;
        }
        return text.append((char) letter).length();
    }

    int wipe() {
        int was = text.length();
        text.setLength(0);
        return was;
    }

    int fault() {
        told = new State(List.of(), 20, 10, 0);
        Matcher m = ITEM.matcher(text);
        int at = 0;
        while (at < text.length()) {
            if (!m.find(at) || m.start() != at || !item(m.group(1), m.group(2).split(","))) {
                return at;
            }
            at = m.end();
        }
        return NONE;
    }

    private boolean item(String kind, String[] figures) {
        int[] a = new int[figures.length];
        for (int i = 0; i < a.length; i++) {
            a[i] = Integer.parseInt(figures[i]);
        }
        switch (kind) {
            case "w":
                if (a.length != 3 || told.size() == 7 || a[0] > 3 || a[1] > 40 || !in(a[2], 1, 20)) {
                    return false;
                }
                List<Wrong> more = new ArrayList<>(told.wrongs);
                more.add(new Wrong(a[0], a[1], a[2], 0, false, null));
                told = new State(more, told.copper, told.tin, 0);
                return true;
            case "m":
                if (a.length != 2) {
                    return false;
                }
                told = new State(told.wrongs, a[0], a[1], 0);
                return true;
            default:
                if (a.length != 5 || a[0] >= told.size() || told.get(a[0]).bell != null
                        || !in(a[1], 1, 30) || a[2] > 30 || a[3] > 40 || a[4] > 23) {
                    return false;
                }
                told = told.with(a[0], told.get(a[0]).with(new Bell(a[1], a[2], true, a[3], a[4])));
                return true;
        }
    }

    int lay() {
        if (fault() != NONE || told.size() == 0) {
            return NO;
        }
        now = told;
        past.clear();
        kept.clear();
        notes.clear();
        return now.size();
    }

    int wrong(int w, int what) {
        if (!isW(w) || !in(what, 0, 5)) {
            return BAD;
        }
        Wrong o = now.get(w);
        return new int[] {o.kind, o.x, o.n, o.times, o.forgiven ? 1 : 0, o.bell == null ? 0 : o.bell.hung ? 2 : 1}[what];
    }

    int bell(int w, int what) {
        if (!isW(w) || !in(what, 0, 5)) {
            return BAD;
        }
        Bell b = now.get(w).bell;
        if (b == null) {
            return NONE;
        }
        return new int[] {b.c, b.t, b.hung ? b.p : NONE, b.hung ? b.h : NONE, b.loud(), b.t > b.c ? 1 : 0}[what];
    }

    int loud(int w, int x) {
        if (!isW(w) || !in(x, 0, 40)) {
            return BAD;
        }
        return now.get(w).hangs() ? now.get(w).bell.at(x) : NO;
    }

    int covered(int w) {
        if (!isW(w)) {
            return BAD;
        }
        if (!now.get(w).hangs()) {
            return NO;
        }
        int bits = 0;
        for (int v = 0; v < now.size(); v++) {
            bits += now.covers(v, w) ? 1 << v : 0;
        }
        return bits;
    }

    int heard(int w) {
        if (!isW(w)) {
            return BAD;
        }
        return !now.get(w).hangs() ? NO : now.heard(w, now.day) ? 1 : 0;
    }

    private void act(State next) {
        past.addLast(now);
        if (past.size() > 8) {
            past.removeFirst();
        }
        now = next;
    }

    int cast(int w, int c, int t) {
        if (!isW(w) || !in(c, 1, 30) || !in(t, 0, 30)) {
            return BAD;
        }
        if (!now.canCast(w, c, t)) {
            return NO;
        }
        act(now.casted(w, c, t));
        return now.get(w).bell.loud();
    }

    int hang(int w, int p, int h) {
        if (!isW(w) || !in(p, 0, 40) || !in(h, 0, 23)) {
            return BAD;
        }
        if (now.get(w).bell == null) {
            return NO;
        }
        act(now.hung(w, p, h));
        int others = 0;
        for (int v = 0; v < now.size(); v++) {
            others += v != w && now.get(w).bell.at(now.get(v).x) > 0 ? 1 : 0;
        }
        return others;
    }

    int takeDown(int w) {
        if (!isW(w)) {
            return BAD;
        }
        if (!now.get(w).hangs()) {
            return NO;
        }
        Bell b = now.get(w).bell;
        act(now.with(w, now.get(w).with(new Bell(b.c, b.t, false, 0, 0))));
        return b.p;
    }

    int melt(int w) {
        if (!isW(w)) {
            return BAD;
        }
        if (now.get(w).bell == null) {
            return NO;
        }
        act(now.melted(w));
        return now.copper;
    }

    int pass(int n) {
        if (!in(n, 1, 24)) {
            return BAD;
        }
        State s = now;
        for (int i = 0; i < n; i++) {
            s = s.ring();
        }
        act(s);
        return now.day;
    }

    int undo() {
        if (past.isEmpty()) {
            return NO;
        }
        now = past.removeLast();
        return past.size();
    }

    int forgives(int w) {
        if (!isW(w)) {
            return BAD;
        }
        State s = now;
        for (int i = 0; i <= 60; i++) {
            if (s.get(w).forgiven) {
                return i;
            }
            s = s.ring();
        }
        return NONE;
    }

    int by(int n) {
        if (!in(n, 0, 60)) {
            return BAD;
        }
        State s = now;
        for (int i = 0; i < n; i++) {
            s = s.ring();
        }
        return s.forgiven();
    }

    int cheap(int w, int p, int h) {
        if (!isW(w) || !in(p, 0, 40) || !in(h, 0, 23)) {
            return BAD;
        }
        if (now.get(w).forgiven) {
            return NO;
        }
        int bestC = 0, bestT = 0;
        for (int c = 1; c <= 30; c++) {
            for (int t = 0; t <= 30; t++) {
                if (now.with(w, now.get(w).with(new Bell(c, t, true, p, h))).heard(w, 0)) {
                    boolean less = c + t < bestC + bestT || c + t == bestC + bestT && t < bestT;
                    if (bestC == 0 || less) {
                        bestC = c;
                        bestT = t;
                    }
                }
            }
        }
        return bestC == 0 ? NONE : 100 * bestC + bestT;
    }

    int best(int w, int what) {
        if (!isW(w) || !in(what, 0, 2)) {
            return BAD;
        }
        if (now.get(w).bell == null) {
            return NO;
        }
        int[] found = null;
        for (int p = 0; p <= 40; p++) {
            for (int h = 0; h < 24; h++) {
                State s = now.hung(w, p, h);
                int others = 0;
                for (int v = 0; v < s.size(); v++) {
                    others += v != w && !s.get(v).forgiven && s.get(w).bell.at(s.get(v).x) >= 1 ? 1 : 0;
                }
                if (s.heard(w, 0) && (found == null || others < found[2])) {
                    found = new int[] {p, h, others};
                }
            }
        }
        return found == null ? NONE : found[what];
    }

    private boolean clash(int a, int b) {
        State s = now.hung(a, now.get(a).bell.p, 0).hung(b, now.get(b).bell.p, 0);
        return s.covers(a, b) || s.covers(b, a);
    }

    /** All ways, numbered as first used, in their order; the first of those with the fewest is kept. */
    private void ways(List<Integer> hung, List<Integer> way, int used, int[][] best) {
        if (way.size() == hung.size()) {
            if (best[0] == null || used < best[0][hung.size()]) {
                best[0] = new int[hung.size() + 1];
                for (int i = 0; i < hung.size(); i++) {
                    best[0][i] = way.get(i);
                }
                best[0][hung.size()] = used;
            }
            return;
        }
        for (int hour = 0; hour <= used; hour++) {
            boolean fits = true;
            for (int i = 0; i < way.size(); i++) {
                fits &= way.get(i) != hour || !clash(hung.get(i), hung.get(way.size()));
            }
            if (fits) {
                way.add(hour);
                ways(hung, way, Math.max(used, hour + 1), best);
                way.remove(way.size() - 1);
            }
        }
    }

    int hours(int w) {
        if (w != -1 && !isW(w)) {
            return BAD;
        }
        List<Integer> hung = new ArrayList<>();
        for (int v = 0; v < now.size(); v++) {
            if (now.get(v).hangs()) {
                hung.add(v);
            }
        }
        int[][] best = new int[1][];
        ways(hung, new ArrayList<>(), 0, best);
        if (w == -1) {
            return best[0][hung.size()];
        }
        return hung.contains(w) ? best[0][hung.indexOf(w)] : NONE;
    }

    int hush(int w) {
        if (!isW(w)) {
            return BAD;
        }
        if (!now.get(w).hangs()) {
            return NO;
        }
        int found = NONE;
        for (int bits = 0; bits < 1 << now.size(); bits++) {
            State s = now;
            boolean possible = (bits >> w & 1) == 0;
            for (int v = 0; v < now.size(); v++) {
                if ((bits >> v & 1) == 1) {
                    possible &= now.get(v).hangs();
                    s = s.with(v, s.get(v).with(null));
                }
            }
            if (possible && s.heard(w, 0) && (found == NONE || Integer.bitCount(bits) < Integer.bitCount(found))) {
                found = bits;
            }
        }
        return found;
    }

    int note(int x, int l) {
        if (!in(x, 0, 40) || !in(l, 0, 99)) {
            return BAD;
        }
        if (notes.size() == 6) {
            return FULL;
        }
        notes.add(new int[] {x, l});
        return notes.size();
    }

    int forget() {
        int were = notes.size();
        notes.clear();
        return were;
    }

    int which() {
        int bits = 0;
        for (int w = 0; w < now.size(); w++) {
            Wrong o = now.get(w);
            bits += o.hangs() && notes.stream().allMatch(n -> o.bell.at(n[0]) == n[1]) ? 1 << w : 0;
        }
        return bits;
    }

    int casts(int l, int what) {
        if (!in(l, 0, 99) || !in(what, 0, 1)) {
            return BAD;
        }
        List<Integer> all = new ArrayList<>();
        for (int c = 1; c <= 30; c++) {
            for (int t = 0; t <= 30; t++) {
                if (new Bell(c, t, false, 0, 0).loud() == l) {
                    all.add(100 * c + t);
                }
            }
        }
        return what == 0 ? all.size() : all.isEmpty() ? NONE : all.get(0);
    }

    int snow(int w, int n, int x, int part) {
        if (!isW(w) || !in(n, 0, 8) || !in(x, 0, 10) || !in(part, 0, 1)) {
            return BAD;
        }
        BigInteger above = BigInteger.ZERO;
        for (int days = 0; days < 1 << n; days++) {
            State s = now;
            BigInteger chance = BigInteger.ONE;
            for (int i = 0; i < n; i++) {
                boolean snows = (days >> i & 1) == 1;
                chance = chance.multiply(BigInteger.valueOf(snows ? x : 10 - x));
                s = snows ? s.nextDay() : s.ring();
            }
            above = s.get(w).forgiven ? above.add(chance) : above;
        }
        BigInteger below = BigInteger.TEN.pow(n);
        BigInteger common = above.gcd(below);
        return (part == 0 ? above : below).divide(common).intValueExact();
    }

    int year(int z, int n, int what) {
        if (!in(z, 0, 9999) || !in(n, 1, 60) || !in(what, 0, 1)) {
            return BAD;
        }
        State s = now;
        for (int k = 0; k < n; k++) {
            BigInteger x = BigInteger.valueOf(7919).multiply(BigInteger.valueOf(z)).add(BigInteger.valueOf(6151L * k + 1));
            int draw = x.multiply(x).mod(BigInteger.valueOf(65521)).intValueExact();
            int w = (draw / 8) % s.size();
            int kind = draw % 8;
            if (kind <= 1 && s.canCast(w, (draw / 64) % 9 + 1, (draw / 512) % 5)) {
                s = s.casted(w, (draw / 64) % 9 + 1, (draw / 512) % 5);
            } else if ((kind == 2 || kind == 3) && s.get(w).bell != null) {
                s = s.hung(w, (draw / 64) % 41, (draw / 512) % 24);
            } else if (kind == 4 && s.get(w).bell != null) {
                s = s.melted(w);
            }
            s = s.ring();
        }
        return what == 0 ? Integer.bitCount(s.forgiven()) : s.copper;
    }

    int keep() {
        if (kept.size() == 2) {
            return FULL;
        }
        kept.addLast(now);
        return kept.size();
    }

    int back() {
        if (kept.isEmpty()) {
            return NO;
        }
        now = kept.removeLast();
        past.clear();
        return kept.size();
    }

    int count(int what) {
        int bells = 0, hang = 0, hear = 0;
        for (int w = 0; w < now.size(); w++) {
            bells += now.get(w).bell != null ? 1 : 0;
            hang += now.get(w).hangs() ? 1 : 0;
            hear += now.heard(w, now.day) ? 1 : 0;
        }
        int[] all = {now.size(), now.day, now.copper, now.tin, bells, hang, Integer.bitCount(now.forgiven()), hear,
            notes.size(), past.size(), kept.size(), text.length()};
        return in(what, 0, 11) ? all[what] : BAD;
    }
}
