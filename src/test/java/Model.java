import java.util.ArrayDeque;
import java.util.ArrayList;
import java.util.Arrays;
import java.util.HashSet;
import java.util.List;
import java.util.Set;

/**
 * The document told a second time, as slowly and plainly as can be: all that SoManyStairs finds by
 * counting cleverly is found here by trying everything. ModelTest asks both the same.
 */
final class Model {
    static final int NONE = -1;

    interface Node {
        int value(int storeys, int heavy, int night, int week, int climbed, int lift);
    }

    static final class Tenant {
        String name;
        int on, strong, heavy, owes, fails;
    }

    static final class Fault extends RuntimeException {
        private static final long serialVersionUID = 1L;
        final int which, place;
        Fault(int which, int place) {
            super(null, null, false, false);
            this.which = which;
            this.place = place;
        }
    }

    record Token(int place, String text, boolean bad) {
        boolean isNumber() { return !bad && Character.isDigit(text.charAt(0)); }
        boolean isWord() { return !bad && Character.isLetter(text.charAt(0)); }
    }

    static final Set<String> OWN = Set.of("storeys", "lift", "tenant", "on", "strong", "heavy", "owes", "fails",
            "counts", "moves", "draw", "or", "and", "not", "night", "week", "climbed");

    /** What a text tells. */
    static final class Told {
        int all = 9, lift = 0, draw = 0, units = 0;
        final List<Tenant> tenants = new ArrayList<>();
        Node counts = (s, h, n, w, c, l) -> 10 * s;
        Node moves = (s, h, n, w, c, l) -> c / 10;
        boolean countsTold, movesTold, drawTold;
    }

    static final class Parser {
        final List<Token> tokens = new ArrayList<>();
        final Told told = new Told();
        int i = 0, unitsHere = 0;

        Parser(byte[] text, int n) {
            int at = 0;
            while (at < n) {
                int from = at, c = text[at];
                if (c == 32 || c == 10) { at++; continue; }
                if (c >= 'a' && c <= 'z') {
                    while (at < n && text[at] >= 'a' && text[at] <= 'z') at++;
                    tokens.add(new Token(from, new String(text, from, at - from), at - from > 8));
                } else if (c >= '0' && c <= '9') {
                    while (at < n && text[at] >= '0' && text[at] <= '9') at++;
                    boolean letter = at < n && text[at] >= 'a' && text[at] <= 'z';
                    tokens.add(new Token(from, new String(text, from, at - from), letter || at - from > 4));
                } else {
                    at++;
                    tokens.add(new Token(from, c < 0 ? "?" : "" + (char) c, c < 0 || ";()<>=+-*/%".indexOf(c) < 0));
                }
            }
            tokens.add(new Token(n, " ", false));
        }

        Token peek() {
            Token t = tokens.get(i);
            if (t.bad) throw new Fault(1, t.place);
            return t;
        }
        boolean at(String s) { return peek().text.equals(s); }
        boolean take(String s) { if (at(s)) { i++; return true; } return false; }
        void want(String s) { if (!take(s)) throw new Fault(2, peek().place); }
        int number(int low, int high) {
            Token t = peek();
            if (!t.isNumber()) throw new Fault(2, t.place);
            int v = Integer.parseInt(t.text);
            if (v < low || v > high) throw new Fault(4, t.place);
            i++;
            return v;
        }

        Told parse() {
            boolean first = true;
            while (!at(" ")) {
                line(first);
                want(";");
                first = false;
            }
            return told;
        }

        void line(boolean first) {
            Token t = peek();
            boolean ok = switch (t.text) {
                case "storeys" -> first;
                case "tenant" -> told.tenants.size() < 8;
                case "counts" -> !told.countsTold;
                case "moves" -> !told.movesTold;
                case "draw" -> !told.drawTold;
                default -> false;
            };
            if (!ok) throw new Fault(2, t.place);
            i++;
            switch (t.text) {
                case "storeys" -> {
                    told.all = number(1, 20);
                    if (take("lift")) told.lift = number(0, told.all);
                }
                case "tenant" -> tenant();
                case "counts" -> { told.countsTold = true; told.counts = formula(); }
                case "moves" -> { told.movesTold = true; told.moves = formula(); }
                default -> { told.drawTold = true; told.draw = number(0, 999); }
            }
        }

        void tenant() {
            Token t = peek();
            if (!t.isWord() || OWN.contains(t.text)) throw new Fault(2, t.place);
            for (Tenant o : told.tenants) if (o.name.equals(t.text)) throw new Fault(3, t.place);
            i++;
            Tenant x = new Tenant();
            x.name = t.text;
            want("on"); x.on = number(0, told.all);
            want("strong"); x.strong = number(0, 40);
            want("heavy"); x.heavy = number(0, 9);
            want("owes"); x.owes = number(0, 999);
            if (take("fails")) x.fails = number(0, 100);
            told.tenants.add(x);
        }

        Node formula() {
            unitsHere = 0;
            return either(0);
        }

        Node either(int inside) {
            Node a = both(inside);
            while (take("or")) {
                Node x = a, y = both(inside);
                a = (s, h, n, w, c, l) -> x.value(s, h, n, w, c, l) != 0 | y.value(s, h, n, w, c, l) != 0 ? 1 : 0;
            }
            return a;
        }

        Node both(int inside) {
            Node a = one(inside);
            while (take("and")) {
                Node x = a, y = one(inside);
                a = (s, h, n, w, c, l) -> x.value(s, h, n, w, c, l) != 0 & y.value(s, h, n, w, c, l) != 0 ? 1 : 0;
            }
            return a;
        }

        Node one(int inside) {
            if (at("not")) {
                if (inside == 7) throw new Fault(2, peek().place);
                i++;
                Node x = one(inside + 1);
                return (s, h, n, w, c, l) -> x.value(s, h, n, w, c, l) == 0 ? 1 : 0;
            }
            Node x = sum(inside);
            if (take("<")) {
                Node y = sum(inside);
                return (s, h, n, w, c, l) -> x.value(s, h, n, w, c, l) < y.value(s, h, n, w, c, l) ? 1 : 0;
            }
            if (take(">")) {
                Node y = sum(inside);
                return (s, h, n, w, c, l) -> x.value(s, h, n, w, c, l) > y.value(s, h, n, w, c, l) ? 1 : 0;
            }
            if (take("=")) {
                Node y = sum(inside);
                return (s, h, n, w, c, l) -> x.value(s, h, n, w, c, l) == y.value(s, h, n, w, c, l) ? 1 : 0;
            }
            return x;
        }

        Node sum(int inside) {
            Node a = term(inside);
            while (true) {
                Node x = a;
                if (take("+")) {
                    Node y = term(inside);
                    a = (s, h, n, w, c, l) -> x.value(s, h, n, w, c, l) + y.value(s, h, n, w, c, l);
                } else if (take("-")) {
                    Node y = term(inside);
                    a = (s, h, n, w, c, l) -> x.value(s, h, n, w, c, l) - y.value(s, h, n, w, c, l);
                } else {
                    return a;
                }
            }
        }

        Node term(int inside) {
            Node a = unit(inside);
            while (true) {
                Node x = a;
                if (take("*")) {
                    Node y = unit(inside);
                    a = (s, h, n, w, c, l) -> x.value(s, h, n, w, c, l) * y.value(s, h, n, w, c, l);
                } else if (take("/")) {
                    Node y = unit(inside);
                    a = (s, h, n, w, c, l) -> {
                        long u = x.value(s, h, n, w, c, l), v = y.value(s, h, n, w, c, l);
                        return v == 0 ? 0 : (int) (u / v);
                    };
                } else if (take("%")) {
                    Node y = unit(inside);
                    a = (s, h, n, w, c, l) -> {
                        long u = x.value(s, h, n, w, c, l), v = y.value(s, h, n, w, c, l);
                        return v == 0 ? 0 : (int) (u % v);
                    };
                } else {
                    return a;
                }
            }
        }

        Node unit(int inside) {
            Token t = peek();
            if (unitsHere == 30 || told.units == 60) throw new Fault(2, t.place);
            unitsHere++;
            told.units++;
            if (t.isNumber()) {
                int v = number(0, 9999);
                return (s, h, n, w, c, l) -> v;
            }
            if (take("storeys")) return (s, h, n, w, c, l) -> s;
            if (take("heavy")) return (s, h, n, w, c, l) -> h;
            if (take("night")) return (s, h, n, w, c, l) -> n;
            if (take("week")) return (s, h, n, w, c, l) -> w;
            if (take("climbed")) return (s, h, n, w, c, l) -> c;
            if (take("lift")) return (s, h, n, w, c, l) -> l;
            if (inside == 7) throw new Fault(2, t.place);
            want("(");
            Node x = either(inside + 1);
            want(")");
            return x;
        }
    }

    /** All that ACTS change. */
    static final class St implements Cloneable {
        int[] breath, paid, debt;
        int climbed, lift, week, seed;
        St copy() {
            St c = new St();
            c.breath = breath.clone(); c.paid = paid.clone(); c.debt = debt.clone();
            c.climbed = climbed; c.lift = lift; c.week = week; c.seed = seed;
            return c;
        }
    }

    record Mark(boolean ofStorey, int number, boolean is, int told, int[] untold) { }

    private final byte[] tape = new byte[1600];
    private int bytes = 0;
    private Told h = new Told();
    private St now;
    private ArrayDeque<St> done = new ArrayDeque<>();
    private ArrayDeque<St> undone = new ArrayDeque<>();
    private final St[] boxes = new St[3];
    private List<Integer> lie = new ArrayList<>();
    private final List<Mark> marks = new ArrayList<>();
    private int time = 0, fault = 0, place = NONE;

    Model() { start(); }

    private void start() {
        int n = h.tenants.size();
        now = new St();
        now.breath = new int[n]; now.paid = new int[n]; now.debt = new int[n];
        for (int t = 0; t < n; t++) now.breath[t] = h.tenants.get(t).strong;
        now.lift = h.lift;
        now.seed = h.draw;
        done.clear(); undone.clear(); marks.clear(); lie.clear();
        Arrays.fill(boxes, null);
    }

    private int n() { return h.tenants.size(); }
    private Tenant t(int t) { return h.tenants.get(t); }
    private boolean is(int t) { return t >= 0 && t < n(); }

    int feed(int a, int b, int c, int d, int e) {
        if (bytes + 20 > 1600) return NONE;
        for (int x : new int[] {a, b, c, d, e}) {
            tape[bytes++] = (byte) (x >> 24);
            tape[bytes++] = (byte) (x >> 16);
            tape[bytes++] = (byte) (x >> 8);
            tape[bytes++] = (byte) x;
        }
        return bytes;
    }
    int end(int n) { if (n < 0 || n > bytes) return NONE; return bytes = n; }
    int house() {
        int n = bytes;
        bytes = 0;
        try {
            h = new Parser(tape, n).parse();
        } catch (Fault f) {
            fault = f.which;
            place = f.place;
            return NONE;
        }
        fault = 0;
        place = NONE;
        start();
        return n();
    }
    int fault(int what) { return what == 0 ? fault : what == 1 ? place : NONE; }

    private int lack(St s, int t) { return Math.max(0, t(t).owes + s.debt[t] - s.paid[t]); }

    int tenant(int t, int what) {
        if (!is(t) || what < 0 || what > 8) return NONE;
        return new int[] {t(t).on, t(t).strong, t(t).heavy, t(t).owes, t(t).fails, now.breath[t], now.paid[t],
            now.debt[t], lack(now, t)}[what];
    }

    private int needs(int storeys, int heavy) { return storeys + storeys * (heavy / 3); }
    private int count(St s, int storeys, int heavy, int night) {
        int v = h.counts.value(storeys, heavy, night, s.week, s.climbed, s.lift);
        return v < 0 ? 0 : v > 999 ? 999 : v;
    }
    private boolean can(int t, int storeys, int carried, int night) {
        return is(t) && storeys >= 1 && storeys <= h.all && (carried == NONE || is(carried) && carried != t)
                && (night == 0 || night == 1) && now.breath[t] >= needs(storeys, heavy(carried));
    }
    private int heavy(int carried) { return carried == NONE ? 0 : t(carried).heavy; }

    int worth(int t, int storeys, int carried, int night, int what) {
        if (!can(t, storeys, carried, night) || what < 0 || what > 1) return NONE;
        return what == 0 ? count(now, storeys, heavy(carried), night) : needs(storeys, heavy(carried));
    }

    private void act() {
        undone.clear();
        done.addLast(now.copy());
        if (done.size() > 40) done.removeFirst();
    }

    int climb(int t, int storeys, int carried, int night) {
        if (!can(t, storeys, carried, night)) return NONE;
        act();
        int c = count(now, storeys, heavy(carried), night);
        now.seed = (137 * now.seed + 71) % 1000;
        if (now.seed % 100 < t(t).fails) c = 0;
        now.paid[t] = Math.min(9999, now.paid[t] + c);
        now.breath[t] -= needs(storeys, heavy(carried));
        now.climbed += storeys;
        return c;
    }
    int give(int t, int o, int stairs) {
        if (!is(t) || !is(o) || t == o || stairs < 1 || stairs > now.paid[t] || now.paid[o] + stairs > 9999) return NONE;
        act();
        now.paid[t] -= stairs;
        return now.paid[o] += stairs;
    }
    private int moves(St s, int climbed) {
        int all = 0;
        for (Tenant x : h.tenants) all += x.heavy;
        return h.moves.value(h.all, all, 0, s.week, climbed, s.lift);
    }
    private void turn(St s) {
        int to = s.lift + moves(s, s.climbed);
        s.lift = to < 0 ? 0 : to > h.all ? h.all : to;
        s.climbed = 0;
        s.week++;
        for (int t = 0; t < n(); t++) s.breath[t] = t(t).strong;
        if (s.week % 4 != 0) return;
        for (int t = 0; t < n(); t++) {
            s.debt[t] += t(t).owes;
            while (s.debt[t] > 0 && s.paid[t] > 0) { s.debt[t]--; s.paid[t]--; }
        }
    }
    int week() {
        if (now.week >= 999) return NONE;
        act();
        turn(now);
        return now.lift;
    }
    boolean undo() {
        if (done.isEmpty()) return false;
        undone.addLast(now);
        now = done.removeLast();
        return true;
    }
    boolean redo() {
        if (undone.isEmpty()) return false;
        done.addLast(now);
        now = undone.removeLast();
        return true;
    }

    // FEWEST: every row of climbs is tried.
    private List<Integer> bestRow;
    private void tryRows(St s, int t, int climbs, List<Integer> row) {
        if (row.size() == climbs) {
            if (lack(s, t) == 0 && (bestRow == null || sum(row) < sum(bestRow))) bestRow = new ArrayList<>(row);
            return;
        }
        for (int by = 1; by <= h.all && by <= s.breath[t]; by++) {
            St next = s.copy();
            next.paid[t] = Math.min(9999, s.paid[t] + count(s, by, 0, 0));
            next.breath[t] -= by;
            next.climbed += by;
            row.add(by);
            tryRows(next, t, climbs, row);
            row.remove(row.size() - 1);
        }
    }
    private static int sum(List<Integer> row) { int s = 0; for (int x : row) s += x; return s; }

    int fewest(int t) {
        lie.clear();
        if (!is(t)) return NONE;
        for (int climbs = 0; climbs <= 4; climbs++) {
            bestRow = null;
            tryRows(now.copy(), t, climbs, new ArrayList<>());
            if (bestRow != null) {
                lie.addAll(bestRow);
                return climbs;
            }
        }
        return NONE;
    }

    int carries(int t, int o) {
        if (!is(t) || !is(o) || t == o) return NONE;
        int best = 0;
        for (int by = 0; by <= h.all; by++) if (needs(by, t(o).heavy) <= now.breath[t]) best = by;
        return best;
    }

    // CARE and PROXY: every way to serve is tried; cost[i] NONE: needs none or can't be.
    private int bestPairs, bestCost;
    private int[] bestWho;
    private void serve(int i, int[] cost, int[] breath, int[] who, int used) {
        if (i == who.length) {
            int pairs = 0, sum = 0;
            for (int k = 0; k < who.length; k++) if (who[k] != NONE) { pairs++; sum += cost[k]; }
            if (bestWho == null || pairs > bestPairs || pairs == bestPairs && sum < bestCost) {
                bestPairs = pairs;
                bestCost = sum;
                bestWho = who.clone();
            }
            return;
        }
        for (int j = 0; j < who.length; j++) {
            if (cost[i] != NONE && j != i && (used >> j & 1) == 0 && now.breath[j] >= breath[i]) {
                who[i] = j;
                serve(i + 1, cost, breath, who, used | 1 << j);
            }
        }
        who[i] = NONE;
        serve(i + 1, cost, breath, who, used);
    }
    private void serveAll(int[] cost, int[] breath) {
        bestWho = null;
        serve(0, cost, breath, new int[n()], 0);
    }
    private void lay(int[] row) { lie.clear(); for (int x : row) lie.add(x); }

    int care() {
        int[] cost = new int[n()], breath = new int[n()];
        for (int t = 0; t < n(); t++) {
            cost[t] = t(t).on > 0 ? 0 : NONE;
            breath[t] = needs(t(t).on, t(t).heavy);
        }
        serveAll(cost, breath);
        lay(bestWho);
        return bestPairs;
    }
    private void proxies() {
        int[] cost = new int[n()];
        for (int t = 0; t < n(); t++) {
            cost[t] = NONE;
            for (int by = h.all; by >= 1; by--) if (lack(now, t) > 0 && count(now, by, 0, 0) >= lack(now, t)) cost[t] = by;
        }
        serveAll(cost, cost);
    }
    int proxy() { proxies(); lay(bestWho); return bestPairs; }
    int toil() { proxies(); return bestCost; }

    int gifts(int what) {
        if (what < 0 || what > 2) return NONE;
        St s = now.copy();
        int times = 0, all = 0;
        while (true) {
            int g = NONE, r = NONE;
            for (int t = 0; t < n() && g == NONE; t++) if (s.paid[t] > t(t).owes + s.debt[t]) g = t;
            for (int t = 0; t < n() && r == NONE; t++) if (lack(s, t) > 0 && s.paid[t] != 9999) r = t;
            if (g == NONE || r == NONE) break;
            times++;
            while (s.paid[g] > t(g).owes + s.debt[g] && lack(s, r) > 0 && s.paid[r] < 9999) {
                s.paid[g]--;
                s.paid[r]++;
                all++;
            }
        }
        int left = 0;
        for (int t = 0; t < n(); t++) left += lack(s, t);
        return new int[] {times, all, left}[what];
    }

    private boolean envy(int[] on, int t, int o) {
        return t != o && (on[o] < on[t] || on[o] == on[t]) && t(o).owes < t(t).owes;
    }
    private int[] storeys() { return h.tenants.stream().mapToInt(x -> x.on).toArray(); }
    private int envies(int[] on) {
        int c = 0;
        for (int t = 0; t < n(); t++) for (int o = 0; o < n(); o++) if (envy(on, t, o)) c++;
        return c;
    }
    int envies(int t) {
        if (!is(t)) return NONE;
        int bits = 0;
        for (int o = 0; o < n(); o++) if (envy(storeys(), t, o)) bits += 1 << o;
        return bits;
    }

    // LET: every exchange is tried.
    private int bestLet;
    private int[] bestHomes;
    private void tryLets(int i, int[] homes, boolean[] used) {
        if (i == n()) {
            int low = 1 << 30, high = -1;
            for (int t = 0; t < n(); t++) {
                low = Math.min(low, 30 * homes[t] + t(t).owes);
                high = Math.max(high, 30 * homes[t] + t(t).owes);
            }
            if (high - low < bestLet || high - low == bestLet && Arrays.compare(homes, bestHomes) < 0) {
                bestLet = high - low;
                bestHomes = homes.clone();
            }
            return;
        }
        for (int p = 0; p < n(); p++) {
            if (!used[p]) {
                used[p] = true;
                homes[i] = t(p).on;
                tryLets(i + 1, homes, used);
                used[p] = false;
            }
        }
    }
    int let() {
        lie.clear();
        if (n() == 0) return NONE;
        bestLet = 1 << 30;
        bestHomes = new int[n()];
        tryLets(0, new int[n()], new boolean[n()]);
        lay(bestHomes);
        return bestLet;
    }

    int month(int t) { return is(t) ? 30 * t(t).on + t(t).owes : NONE; }

    int rest() {
        St s = now.copy();
        for (int k = 0; k <= 60; k++) {
            int lift = s.lift;
            turn(s);
            if (s.lift == lift) return k;
        }
        return NONE;
    }
    private St behind(int weeks) { St s = now.copy(); for (int i = 0; i < weeks; i++) turn(s); return s; }
    int will(int n) { return n < 0 || n > 60 ? NONE : behind(n).lift; }
    int pull() { return moves(now, now.climbed); }
    int lever() {
        for (int more = 0; more < 100; more++) {
            St s = now.copy();
            s.climbed += more;
            turn(s);
            if (s.lift > now.lift) return more;
        }
        return NONE;
    }

    // ODDS: every way that the climbs can go is looked at.
    int odds(int t, int n, int m, int part) {
        if (!is(t) || n < 0 || n > 4 || m < 0 || m > n || part < 0 || part > 1) return NONE;
        long up = 0, low = 1;
        for (int i = 0; i < n; i++) low *= 100;
        for (int ways = 0; ways < 1 << n; ways++) {
            long p = 1;
            for (int i = 0; i < n; i++) p *= (ways >> i & 1) == 1 ? 100 - t(t).fails : t(t).fails;
            if (Integer.bitCount(ways) >= m) up += p;
        }
        var g = java.math.BigInteger.valueOf(up).gcd(java.math.BigInteger.valueOf(low)).longValue();
        return (int) ((part == 0 ? up : low) / g);
    }

    int poorest() {
        int best = NONE;
        for (int t = n() - 1; t >= 0; t--) if (best == NONE || lack(now, t) >= lack(now, best)) best = t;
        return best;
    }
    int owing() { int b = 0; for (int t = 0; t < n(); t++) if (lack(now, t) != 0) b += 1 << t; return b; }
    int law(int n) {
        if (n < -999 || n > 999) return NONE;
        int c = 0;
        for (int t = 0; t < n(); t++) if (Math.max(0, t(t).owes + n) + now.debt[t] - now.paid[t] > 0) c++;
        return c;
    }
    int stride(int t, int night) {
        if (!is(t) || night < 0 || night > 1) return NONE;
        int best = NONE;
        for (int by = Math.min(h.all, now.breath[t]); by >= 1; by--) {
            if (best == NONE || (long) count(now, by, 0, night) * best >= (long) count(now, best, 0, night) * by) best = by;
        }
        return best;
    }
    int settle(int t, int by) {
        if (!is(t) || by < 1 || by > h.all) return NONE;
        St s = now.copy();
        for (int k = 0; k <= 60; k++) {
            while (lack(s, t) > 0 && s.breath[t] >= by) {
                s.paid[t] = Math.min(9999, s.paid[t] + count(s, by, 0, 0));
                s.breath[t] -= by;
                s.climbed += by;
            }
            if (lack(s, t) == 0) return k;
            turn(s);
        }
        return NONE;
    }
    int hover(int climbed) {
        if (climbed < 0 || climbed > 999) return NONE;
        St s = now.copy();
        for (int k = 0; k < 60; k++) { s.climbed = climbed; turn(s); }
        return s.lift;
    }
    int ruin(int n) { return n < 0 || n > 60 ? NONE : Arrays.stream(behind(n).debt).sum(); }
    int team(int storeys, int what) {
        if (storeys < 0 || storeys > 400 || what < 0 || what > 1) return NONE;
        for (int size = 0; size <= n(); size++) {
            for (int set = 0; set < 1 << n(); set++) {
                int together = 0;
                for (int t = 0; t < n(); t++) if ((set >> t & 1) == 1) together += now.breath[t];
                if (Integer.bitCount(set) == size && together >= storeys) return what == 0 ? size : set;
            }
        }
        return NONE;
    }
    int quarrel() { return envies(storeys()); }
    int calm(int what) {
        int[] best = null;
        for (int a = 0; a < n(); a++) {
            for (int b = a + 1; b < n(); b++) {
                int[] on = storeys();
                int x = on[a];
                on[a] = on[b];
                on[b] = x;
                int left = envies(on);
                if (left < (best == null ? quarrel() : best[2])) best = new int[] {a, b, left};
            }
        }
        return best == null || what < 0 || what > 2 ? NONE : best[what];
    }

    // LADDER: from what has been climbed on, the best of all next climbs or of none.
    int ladder(int t) { return is(t) ? ladder(now.copy(), now.breath[t], new Integer[41]) : NONE; }
    private int ladder(St s, int breath, Integer[] known) {
        if (known[breath] != null) return known[breath];
        int best = 0;
        for (int by = 1; by <= breath && by <= h.all; by++) {
            St next = s.copy();
            next.climbed += by;
            best = Math.max(best, count(s, by, 0, 0) + ladder(next, breath - by, known));
        }
        return known[breath] = best;
    }

    int spread() {
        if (n() == 0) return NONE;
        return h.tenants.stream().mapToInt(x -> 30 * x.on + x.owes).max().getAsInt()
                - h.tenants.stream().mapToInt(x -> 30 * x.on + x.owes).min().getAsInt();
    }
    int live(int storey) {
        if (storey < 0 || storey > h.all) return NONE;
        int b = 0;
        for (int t = 0; t < n(); t++) if (t(t).on == storey) b += 1 << t;
        return b;
    }
    int lies(int i) { return i < 0 || i >= lie.size() ? -2 : lie.get(i); }

    private int mark(boolean ofStorey, int number, int most, boolean is) {
        if (number < 0 || number > most || marks.size() == 30) return NONE;
        marks.add(new Mark(ofStorey, number, is, time, new int[] {NONE}));
        return marks.size() - 1;
    }
    int chalk(int storey, boolean is) { return mark(true, storey, h.all, is); }
    int tread(int heavy, boolean is) { return mark(false, heavy, 9, is); }
    boolean untell(int mark) {
        if (mark < 0 || mark >= marks.size() || marks.get(mark).untold[0] != NONE) return false;
        marks.get(mark).untold[0] = time;
        return true;
    }
    int later(int by) { return by < 0 || by > 1000 || time + by > 100_000 ? NONE : (time += by); }

    /** Each {tenant, low, high} by which all that counts is so. */
    private List<int[]> runList(int k) {
        List<int[]> all = new ArrayList<>();
        for (int t = 0; t < n(); t++) {
            for (int low = 0; low <= h.all; low++) {
                for (int high = 0; high <= h.all; high++) {
                    if (high <= low || high - low > t(t).strong) continue;
                    boolean so = true;
                    for (Mark m : marks) {
                        boolean counts = m.told <= k && !(m.untold[0] != NONE && m.untold[0] <= k);
                        boolean fact = m.ofStorey ? low <= m.number && m.number <= high : t(t).heavy >= m.number;
                        if (counts && fact != m.is) so = false;
                    }
                    if (so) all.add(new int[] {t, low, high});
                }
            }
        }
        return all;
    }
    int runs(int k) { return runList(k).size(); }
    int who(int k) {
        Set<Integer> who = new HashSet<>();
        for (int[] r : runList(k)) who.add(r[0]);
        int b = 0;
        for (int t : who) b += 1 << t;
        return b;
    }
    int ask(int what, int k) {
        List<int[]> all = runList(k);
        if (all.isEmpty() || what < 0 || what > 1) return NONE;
        int best = NONE, bestLeft = 0;
        for (int s = 0; s <= h.all; s++) {
            int in = 0;
            for (int[] r : all) if (r[1] <= s && s <= r[2]) in++;
            int left = Math.max(in, all.size() - in);
            if (best == NONE || left < bestLeft) { best = s; bestLeft = left; }
        }
        return what == 0 ? best : bestLeft;
    }

    int image(int box) {
        if (box < 0 || box > 2) return NONE;
        boxes[box] = now.copy();
        return now.week;
    }
    int back(int box) {
        if (box < 0 || box > 2 || boxes[box] == null) return NONE;
        now = boxes[box].copy();
        done.clear();
        undone.clear();
        return now.week;
    }
    int about(int what) {
        if (what < 0 || what > 12) return NONE;
        return new int[] {n(), h.all, now.lift, now.climbed, now.week, now.seed, done.size(), undone.size(),
            marks.size(), time, bytes, h.units, lie.size()}[what];
    }
}
