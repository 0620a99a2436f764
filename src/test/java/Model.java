import java.util.ArrayList;
import java.util.List;

/**
 * The document's words as plainly as Java can say them, slow and wasteful: real classes with super for the KINDS,
 * real rows and casts for SHEETS, a tree for each condition, all PLANS gone through one by one.
 * ModelTest holds LightHalves against it.
 */
final class Model {
    static final int BAD = -1, FULL = -2, NONE = -3, STATE = -4;

    // ---- things of KINDS

    static class Ship {
        int n, off, trim, lane;
        boolean home;
        List<Integer> trace;

        int kind() { return 0; }
        int nears(int flash, int dark, int watch) { return 2 + flash; }
        int reaches(int flash) { return 10 + 2 * trim; }
        int sights(int x) { trace.add(10); return x * 9 - n; }
        int tacks(int x) { trace.add(11); return sights(x) - 3 * lane; }
        int sounds(int x) { trace.add(12); return x % (n + lane - 5); }
        int lands(int x) { trace.add(13); return tacks(x) + sounds(x); }
    }

    static class Tender extends Ship {
        @Override int kind() { return 1; }
        @Override int nears(int flash, int dark, int watch) { return flash * dark; }
        @Override int reaches(int flash) { return 20; }
        @Override int sights(int x) { trace.add(20); return super.sights(x) ^ 21; }
    }

    static class Coaster extends Ship {
        @Override int kind() { return 2; }
        @Override int nears(int flash, int dark, int watch) { return 2 * flash; }
        @Override int reaches(int flash) { return super.reaches(flash) + 5; }
        @Override int tacks(int x) { trace.add(30); return super.tacks(x) * 2; }
    }

    static class Collier extends Coaster {
        @Override int kind() { return 3; }
        @Override int nears(int flash, int dark, int watch) { return super.nears(flash, dark, watch) + dark; }
        @Override int reaches(int flash) { return Math.max(0, super.reaches(flash) - 3 * flash); }
        @Override int sights(int x) { trace.add(50); return super.sights(x + 13); }
        @Override int lands(int x) { trace.add(51); return super.lands(x) - tacks(lane); }
    }

    static class Brig extends Ship {
        @Override int kind() { return 4; }
        @Override int nears(int flash, int dark, int watch) { return 3 + dark; }
        @Override int reaches(int flash) { return super.reaches(flash) + 3 * flash; }
        @Override int sounds(int x) { trace.add(40); return super.sounds(x) + 7; }
    }

    static class Captain extends Brig {
        @Override int kind() { return 5; }
        @Override int nears(int flash, int dark, int watch) {
            return watch % 3 == 0 ? 0 : super.nears(flash, dark, watch);
        }
        @Override int reaches(int flash) { return super.reaches(flash) / 2; }
        @Override int tacks(int x) { trace.add(60); return 0 - super.tacks(x); }
        @Override int sounds(int x) { trace.add(61); return super.sounds(x) ^ sights(n); }
    }

    static Ship make(int kind) {
        switch (kind) {
            case 1: return new Tender();
            case 2: return new Coaster();
            case 3: return new Collier();
            case 4: return new Brig();
            case 5: return new Captain();
            default: return new Ship();
        }
    }

    static Class<?> classOf(int kind) { return make(kind).getClass(); }

    static Ship as(int kind, Ship s) {
        Ship t = make(kind);
        t.n = s.n; t.off = s.off; t.trim = s.trim; t.lane = s.lane; t.home = s.home;
        return t;
    }

    // ---- THE RULES

    interface Cond { boolean is(int[] facts); }

    static final class Rule { Class<?> kind; Cond cond; int deed; }

    static final class Fault extends Exception {
        private static final long serialVersionUID = 1L;
        final int at;
        Fault(int at) { this.at = at; }
    }

    static final class Text {
        final List<String> tokens = new ArrayList<>();
        final List<Integer> places = new ArrayList<>();
        int at = 0;
        int open = 0;

        Text(String s) {
            int i = 0;
            while (i < s.length()) {
                int from = i;
                char c = s.charAt(i);
                if (c == ' ') { i++; continue; }
                if (c >= 'a' && c <= 'z') {
                    while (i < s.length() && s.charAt(i) >= 'a' && s.charAt(i) <= 'z') i++;
                } else if (c >= '0' && c <= '9') {
                    while (i < s.length() && s.charAt(i) >= '0' && s.charAt(i) <= '9') i++;
                } else {
                    i++;
                }
                tokens.add(s.substring(from, i));
                places.add(from);
            }
            places.add(s.length());
        }

        String peek() { return at < tokens.size() ? tokens.get(at) : ""; }
        Fault fault() { return new Fault(places.get(at)); }

        int oneOf(String... words) throws Fault {
            for (int i = 0; i < words.length; i++) if (peek().equals(words[i])) { at++; return i; }
            throw fault();
        }

        List<Rule> all() throws Fault {
            List<Rule> rules = new ArrayList<>();
            while (at < tokens.size()) {
                if (rules.size() == 8) throw fault();
                Rule r = new Rule();
                r.kind = classOf(oneOf("ship", "tender", "coaster", "collier", "brig", "captain"));
                r.cond = facts -> true;
                if (peek().equals("if")) { at++; r.cond = cond(); }
                r.deed = oneOf("enter", "stand", "hail");
                oneOf(";");
                rules.add(r);
            }
            return rules;
        }

        Cond cond() throws Fault {
            Cond c = conjunction();
            while (peek().equals("or")) { at++; Cond a = c, b = conjunction(); c = f -> a.is(f) || b.is(f); }
            return c;
        }

        Cond conjunction() throws Fault {
            Cond c = one();
            while (peek().equals("and")) { at++; Cond a = c, b = one(); c = f -> a.is(f) && b.is(f); }
            return c;
        }

        Cond one() throws Fault {
            if (peek().equals("not")) { at++; Cond c = one(); return f -> !c.is(f); }
            if (peek().equals("(")) {
                if (open == 3) throw fault();
                at++;
                open++;
                Cond c = cond();
                oneOf(")");
                open--;
                return c;
            }
            int a = value(), sign = oneOf("<", "=", ">", "<"), b = value();
            return f -> {
                int x = a < 0 ? f[-1 - a] : a, y = b < 0 ? f[-1 - b] : b;
                return sign == 0 ? x < y : sign == 1 ? x == y : x > y;
            };
        }

        int value() throws Fault {
            String t = peek();
            if (t.matches("[0-9]{1,4}")) { at++; return Integer.parseInt(t); }
            return -1 - oneOf("watch", "off", "trim", "flash", "number");
        }
    }

    // ---- the state

    static final class Report { int k, asked, least, most; }

    static final class World {
        List<Ship> ships = new ArrayList<>();
        List<Rule> rules = new ArrayList<>();
        List<Report> reports = new ArrayList<>();
        int[] light = new int[16], current = new int[6], buoy = new int[6];
        int watch = 0, end = 12, score = 0, z = 1;

        World copy() {
            World w = new World();
            for (Ship s : ships) w.ships.add(as(s.kind(), s));
            w.rules = new ArrayList<>(rules);
            w.reports = new ArrayList<>(reports);
            w.light = light.clone(); w.current = current.clone(); w.buoy = buoy.clone();
            w.watch = watch; w.end = end; w.score = score; w.z = z;
            return w;
        }

        boolean over() { return watch >= end; }
        int light() { return watch < 16 ? light[watch] : 0; }
        int flash() { return light() / 4; }
        int dark() { return light() % 4; }

        int nears(Ship s) {
            int v = s.nears(flash(), dark(), watch) + current[s.lane];
            for (Ship t : ships) if (t != s && t.lane == s.lane && !t.home) v--;
            return Math.max(v, 0);
        }

        int reaches(Ship s) { return s.reaches(flash()) + buoy[s.lane]; }
        int pays(Ship s) { return !s.home && s.off >= 1 && s.off <= reaches(s) ? 6 + s.trim : 0; }

        int will(Ship s) {
            int[] facts = {watch, s.off, s.trim, flash(), s.n};
            for (Rule r : rules) if (r.kind.isInstance(s) && r.cond.is(facts)) return r.deed;
            return 0;
        }

        boolean may(Ship s) { return will(s) == 0 && pays(s) > 0; }
        boolean onRock(Ship s) { return !s.home && s.off == 0; }

        int homes() { int set = 0; for (Ship s : ships) if (s.home) set |= 1 << s.n; return set; }
        int rocks() { int c = 0; for (Ship s : ships) if (onRock(s)) c++; return c; }

        int pass(int act) {
            int worth = 0;
            if (act > 0 && !ships.get(act - 1).home) {
                Ship s = ships.get(act - 1);
                int will = will(s);
                if (will == 0) {
                    int pay = pays(s);
                    worth += pay;
                    if (pay > 0) s.home = true;
                } else if (will == 2) {
                    s.off = Math.min(99, s.off + 12);
                    if (dark() > 1) worth += 1;
                }
            }
            int[] by = new int[ships.size()];
            for (Ship s : ships) by[s.n] = nears(s);
            for (Ship s : ships) if (!s.home) s.off = Math.max(0, s.off - by[s.n]);
            worth += Math.max(0, Integer.bitCount(homes()) - rocks());
            watch++;
            score += worth;
            return worth;
        }

        int passRest() {
            for (Ship s : ships) if (may(s)) return pass(s.n + 1);
            return pass(0);
        }

        int passLot() {
            z = z * 1103515245 + 12345;
            return pass((z >>> 16) % (ships.size() + 1));
        }

        int rest(int n) {
            int worth = 0;
            for (int i = 0; i < n && !over(); i++) worth += passRest();
            return worth;
        }
    }

    World w = new World();
    World kept = null;
    StringBuilder tape = new StringBuilder();
    List<int[]> rows = new ArrayList<>();
    Object[] sheets = new Object[4];
    Object[] shelves = new Object[4];
    List<Integer> trace = new ArrayList<>();

    Model() { java.util.Arrays.fill(w.light, 6); }

    boolean has(int k) { return k >= 0 && k < w.ships.size(); }

    int ship(int kind, int off, int trim, int lane) {
        if (kind < 1 || kind > 5 || off < 0 || off > 99 || trim < 0 || trim > 9 || lane < 0 || lane > 5) return BAD;
        if (w.ships.size() == 6) return FULL;
        Ship s = make(kind);
        s.n = w.ships.size(); s.off = off; s.trim = trim; s.lane = lane;
        w.ships.add(s);
        return s.n;
    }

    int shipOf(int k, int what) {
        if (!has(k) || what < 0 || what > 9) return BAD;
        Ship s = w.ships.get(k);
        int[] all = {s.kind(), s.off, s.trim, s.lane, s.home ? 1 : 0, w.nears(s), w.reaches(s), w.pays(s),
            w.may(s) ? 1 : 0, w.will(s)};
        return all[what];
    }

    int change(int k, int what, int v) {
        int[] most = {-1, 99, 9, 5, 1};
        if (!has(k) || what < 1 || what > 4 || v < 0 || v > most[what]) return BAD;
        int was = shipOf(k, what);
        Ship s = w.ships.get(k);
        if (what == 1) s.off = v;
        if (what == 2) s.trim = v;
        if (what == 3) s.lane = v;
        if (what == 4) s.home = v == 1;
        return was;
    }

    int remake(int k, int kind) {
        if (!has(k) || kind < 1 || kind > 5) return BAD;
        int was = w.ships.get(k).kind();
        w.ships.set(k, as(kind, w.ships.get(k)));
        return was;
    }

    int light(int watch, int v) {
        if (watch < 0 || watch > 15 || v < 0 || v > 15) return BAD;
        int was = w.light[watch];
        w.light[watch] = v;
        return was;
    }

    int lane(int f, int what, int v) {
        if (laneOf(f, what) == BAD || v < 0 || v > 9) return BAD;
        int was = laneOf(f, what);
        (what == 0 ? w.current : w.buoy)[f] = v;
        return was;
    }

    int laneOf(int f, int what) {
        if (f < 0 || f > 5 || what < 0 || what > 1) return BAD;
        return (what == 0 ? w.current : w.buoy)[f];
    }

    int ends(int v) {
        if (v < 1 || v > 16) return BAD;
        if (v < w.watch) return STATE;
        int was = w.end;
        w.end = v;
        return was;
    }

    int anew() {
        int was = w.watch;
        w.watch = 0;
        w.score = 0;
        for (Ship s : w.ships) s.home = false;
        return was;
    }

    int state(int what) {
        if (what < 0 || what > 6) return BAD;
        return new int[] {w.watch, w.end, w.score, w.over() ? 1 : 0, w.homes(), w.light(), w.rocks()}[what];
    }

    int feed(long eight, int n) {
        if (n < 1 || n > 8) return BAD;
        if (tape.length() + n > 200) return FULL;
        for (int i = 0; i < n; i++, eight >>>= 8) tape.append((char) (eight & 255));
        return tape.length();
    }

    int rules() {
        String text = tape.toString();
        tape.setLength(0);
        try {
            w.rules = new Text(text).all();
            return w.rules.size();
        } catch (Fault f) {
            return -100 - f.at;
        }
    }

    int watch() { return w.over() ? STATE : w.passRest(); }
    int on(int n) { return n < 0 || n > 16 ? BAD : w.copy().rest(n); }

    int when(int k) {
        if (!has(k)) return BAD;
        World t = w.copy();
        if (t.ships.get(k).home) return NONE;
        while (!t.over()) { t.passRest(); if (t.ships.get(k).home) return t.watch - 1; }
        return NONE;
    }

    private int forMost(int k, int what, int most) {
        if (!has(k)) return BAD;
        int best = -1, at = -1, was = shipOf(k, what);
        for (int v = 0; v <= most; v++) {
            change(k, what, v);
            int worth = on(16);
            if (worth > best) { best = worth; at = v; }
        }
        change(k, what, was);
        return at;
    }

    int trimFor(int k) { return forMost(k, 2, 9); }
    int laneFor(int k) { return forMost(k, 3, 5); }

    int rock(int k) {
        if (!has(k)) return BAD;
        World t = w.copy();
        while (true) {
            if (t.onRock(t.ships.get(k))) return t.watch;
            if (t.over()) return NONE;
            t.passRest();
        }
    }

    int least(int k) {
        if (!has(k)) return BAD;
        World t = w.copy();
        for (int v = 0; v <= 9; v++) { t.ships.get(k).trim = v; if (t.pays(t.ships.get(k)) > 0) return v; }
        return NONE;
    }

    int safe(int n) {
        if (n < 0 || n > 16) return BAD;
        World t = w.copy();
        t.rest(n);
        int set = 0;
        for (Ship s : t.ships) if (s.home || s.off >= 1) set |= 1 << s.n;
        return set;
    }

    private void gather(int k, boolean[] in) {
        in[k] = true;
        for (Ship t : w.ships) {
            Ship s = w.ships.get(k);
            boolean close = s.lane == t.lane || Math.abs(s.off - t.off) <= 4;
            if (!t.home && close && !in[t.n]) gather(t.n, in);
        }
    }

    int convoys(int what) {
        if (what == -1) {
            java.util.Set<Integer> sets = new java.util.HashSet<>();
            for (Ship s : w.ships) if (!s.home) sets.add(convoys(s.n));
            return sets.size();
        }
        if (!has(what)) return BAD;
        if (w.ships.get(what).home) return 0;
        boolean[] in = new boolean[6];
        gather(what, in);
        int set = 0;
        for (int i = 0; i < 6; i++) if (in[i]) set |= 1 << i;
        return set;
    }

    // ---- PLANS, one by one

    static final class Done { int[] acts; int worth, home, told; }

    List<Done> plans(int n) {
        int length = Math.min(n, w.end - w.watch), base = w.ships.size() + 1, many = 1;
        for (int i = 0; i < length; i++) many *= base;
        List<Done> all = new ArrayList<>();
        for (int p = 0; p < many; p++) {
            Done d = new Done();
            d.acts = new int[length];
            for (int i = length - 1, q = p; i >= 0; i--, q /= base) d.acts[i] = q % base;
            World t = w.copy();
            for (int act : d.acts) { d.worth += t.pass(act); if (act != 0) d.told++; }
            d.home = t.homes();
            all.add(d);
        }
        return all;
    }

    List<Done> bests(int n) {
        List<Done> all = plans(n);
        int most = 0;
        for (Done d : all) most = Math.max(most, d.worth);
        List<Done> best = new ArrayList<>();
        for (Done d : all) if (d.worth == most) best.add(d);
        return best;
    }

    int best(int n) { return n < 0 || n > 4 ? BAD : bests(n).get(0).worth; }

    int ith(int n, int i) {
        if (n < 0 || n > 4 || i < 0 || i > 3) return BAD;
        int[] acts = bests(n).get(0).acts;
        return i < acts.length ? acts[i] : NONE;
    }

    int ways(int n) { return n < 0 || n > 4 ? BAD : bests(n).size(); }

    private boolean badSet(int ships) { return (ships & ~((1 << w.ships.size()) - 1)) != 0; }

    int log(int n, int ships) {
        if (n < 0 || n > 4 || badSet(ships)) return BAD;
        int fewest = 99;
        for (Done d : plans(n)) if ((d.home & ships) == ships) fewest = Math.min(fewest, d.told);
        return fewest == 99 ? NONE : fewest;
    }

    int bars(int n, int ships) {
        if (n < 0 || n > 4 || badSet(ships)) return BAD;
        List<Done> all = plans(n);
        for (int k = 0; k < 6; k++) {
            if ((ships >> k & 1) == 0) continue;
            boolean some = false;
            for (Done d : all) some |= (d.home >> k & 1) == 1;
            if (!some) return k;
        }
        return NONE;
    }

    private int[] duel(World t, int n, boolean most) {
        if (n == 0 || t.over()) return new int[] {0, NONE};
        int[] best = null;
        for (int act = 0; act <= t.ships.size(); act++) {
            World u = t.copy();
            int worth = u.pass(act) + duel(u, n - 1, !most)[0];
            if (best == null || (most ? worth > best[0] : worth < best[0])) best = new int[] {worth, act};
        }
        return best;
    }

    int game(int n) { return n < 1 || n > 4 ? BAD : duel(w, n, true)[0]; }
    int play(int n) { return n < 1 || n > 4 ? BAD : duel(w, n, true)[1]; }

    // ---- strangers, lots

    int report(int k, int asked, int least, int most) {
        if (k < 0 || k > 15 || asked < 0 || asked > 1 || least < 0 || most < least) return BAD;
        if (most > (asked == 0 ? 99 : 16)) return BAD;
        if (w.reports.size() == 6) return FULL;
        Report r = new Report();
        r.k = k; r.asked = asked; r.least = least; r.most = most;
        w.reports.add(r);
        return w.reports.size() - 1;
    }

    int forget() {
        int was = w.reports.size();
        w.reports.clear();
        return was;
    }

    private boolean isSo(Report r, int kind, int trim, int off) {
        World t = new World();
        t.light = w.light.clone();
        t.end = 16;
        Ship s = make(kind);
        s.off = off; s.trim = trim;
        t.ships.add(s);
        int paid = 0;
        for (int i = 0; i < r.k; i++) { if (t.pays(s) > 0) paid++; t.pass(0); }
        int v = r.asked == 0 ? s.off : paid;
        return v >= r.least && v <= r.most;
    }

    private List<int[]> fitting(List<Report> reports) {
        List<int[]> fit = new ArrayList<>();
        for (int kind = 1; kind <= 5; kind++) {
            for (int trim = 0; trim <= 9; trim++) {
                for (int off = 9; off <= 90; off += 9) {
                    boolean all = true;
                    for (Report r : reports) all = all && isSo(r, kind, trim, off);
                    if (all) fit.add(new int[] {kind, trim, off});
                }
            }
        }
        return fit;
    }

    int lone(int what) {
        if (what < 0 || what > 3) return BAD;
        List<int[]> fit = fitting(w.reports);
        if (what == 0) return fit.size();
        return fit.isEmpty() ? NONE : fit.get(0)[what - 1];
    }

    int liar() {
        if (!fitting(w.reports).isEmpty()) return NONE;
        for (int i = 0; i < w.reports.size(); i++) {
            List<Report> but = new ArrayList<>(w.reports);
            but.remove(i);
            if (!fitting(but).isEmpty()) return i;
        }
        return NONE;
    }

    int seed(int v) {
        int was = w.z;
        w.z = v;
        return was;
    }

    int lot() { return w.over() ? STATE : w.passLot(); }

    int times(int n, int v) {
        if (n < 1 || n > 40 || v < 0 || v > 999) return BAD;
        int z = w.z, many = 0;
        for (int i = 0; i < n; i++) {
            World t = w.copy();
            t.z = z;
            int worth = 0;
            while (!t.over()) worth += t.passLot();
            z = t.z;
            if (worth >= v) many++;
        }
        return many;
    }

    // ---- rows

    int prove(int n) {
        if (n < 0 || n > 4) return BAD;
        int[] acts = bests(n).get(0).acts;
        rows.clear();
        World t = w.copy();
        for (int act : acts) { int worth = t.pass(act); rows.add(new int[] {act, worth, t.homes()}); }
        return rows.size();
    }

    int row(int k, int what) {
        return k < 0 || k >= rows.size() || what < 0 || what > 2 ? -9 : rows.get(k)[what];
    }

    int alterRow(int k, int what, int v) {
        if (k < 0 || k >= rows.size() || what < 0 || what > 2) return -9;
        int was = rows.get(k)[what];
        rows.get(k)[what] = v;
        return was;
    }

    int judge() {
        World t = w.copy();
        for (int i = 0; i < rows.size(); i++) {
            int[] r = rows.get(i);
            if (r[0] < 0 || r[0] > t.ships.size() || t.over()) return i + 1;
            if (t.pass(r[0]) != r[1] || t.homes() != r[2]) return i + 1;
        }
        return 0;
    }

    // ---- the host

    int sheet(int sheet, int sort, int n) {
        if (sheet < 0 || sheet > 3 || sort < -1 || sort > 4) return BAD;
        if (sort == -1) { sheets[sheet] = null; return 1; }
        if (n > 40) return BAD;
        try {
            switch (sort) {
                case 0: sheets[sheet] = new byte[n]; break;
                case 1: sheets[sheet] = new short[n]; break;
                case 2: sheets[sheet] = new int[n]; break;
                case 3: sheets[sheet] = new long[n]; break;
                default: sheets[sheet] = new boolean[n]; break;
            }
            return 1;
        } catch (NegativeArraySizeException e) {
            return -14;
        }
    }

    int write(int sheet, int i, int v) {
        if (sheet < 0 || sheet > 3) return BAD;
        Object row = sheets[sheet];
        if (row == null) return -11;
        try {
            if (row instanceof byte[]) ((byte[]) row)[i] = (byte) v;
            if (row instanceof short[]) ((short[]) row)[i] = (short) v;
            if (row instanceof int[]) ((int[]) row)[i] = v;
            if (row instanceof long[]) ((long[]) row)[i] = v;
            if (row instanceof boolean[]) ((boolean[]) row)[i] = v != 0;
            return 1;
        } catch (ArrayIndexOutOfBoundsException e) {
            return -12;
        }
    }

    int item(int sheet, int sort, int i) {
        if (sheet < 0 || sheet > 3 || sort < 0 || sort > 4) return BAD;
        try {
            Object row = sheets[sheet];
            switch (sort) {
                case 0: return ((byte[]) row)[i];
                case 1: return ((short[]) row)[i];
                case 2: return ((int[]) row)[i];
                case 3: return (int) ((long[]) row)[i];
                default: return ((boolean[]) row)[i] ? 1 : 0;
            }
        } catch (ClassCastException e) {
            return -13;
        } catch (NullPointerException e) {
            return -11;
        } catch (ArrayIndexOutOfBoundsException e) {
            return -12;
        }
    }

    private int all(World t, int sheet, int i, int n, boolean strict) {
        if (sheet < 0 || sheet > 3 || n < 0 || n > 20) return BAD;
        if (sheets[sheet] != null && !(sheets[sheet] instanceof byte[])) return -13;
        if (sheets[sheet] == null) return -11;
        byte[] row = (byte[]) sheets[sheet];
        int worth = 0;
        for (long at = i; at < (long) i + n; at++) {
            if (at < 0 || at >= row.length) return -12;
            int act = row[(int) at];
            boolean fine = act >= 0 && act <= t.ships.size() && !t.over();
            if (!fine && strict) return STATE;
            if (fine) worth += t.pass(act);
        }
        return worth;
    }

    int goAll(int sheet, int i, int n) { return all(w, sheet, i, n, false); }
    int wouldBe(int sheet, int i, int n) { return all(w.copy(), sheet, i, n, true); }

    int shelf(int shelf, int what, int n) {
        if (shelf < 0 || shelf > 3 || what < 0 || what > 2) return BAD;
        if (what == 0 && !has(n) || what == 1 && (n < 0 || n > 3)) return BAD;
        shelves[shelf] = what == 0 ? Integer.valueOf(n) : what == 1 ? sheets[n] : null;
        return 1;
    }

    private Object held(int shelf) {
        Object o = shelves[shelf];
        if (!(o instanceof Integer)) return o;
        return has((Integer) o) ? w.ships.get((Integer) o) : null;
    }

    int taken(int shelf, int as) {
        if (shelf < 0 || shelf > 3 || as < 0 || as > 14 || as > 5 && as < 10) return BAD;
        try {
            Object o = held(shelf);
            switch (as) {
                case 10: return ((byte[]) o).length;
                case 11: return ((short[]) o).length;
                case 12: return ((int[]) o).length;
                case 13: return ((long[]) o).length;
                case 14: return ((boolean[]) o).length;
                default: return ((Ship) classOf(as).cast(o)).n;
            }
        } catch (ClassCastException e) {
            return -13;
        } catch (NullPointerException e) {
            return -11;
        }
    }

    int act(int shelf, int act, int x) {
        trace = new ArrayList<>();
        if (shelf < 0 || shelf > 3 || act < 0 || act > 3 || !(held(shelf) instanceof Ship)) return 0;
        Ship s = (Ship) held(shelf);
        s.trace = trace;
        try {
            switch (act) {
                case 0: return s.sights(x);
                case 1: return s.tacks(x);
                case 2: return s.sounds(x);
                default: return s.lands(x);
            }
        } catch (ArithmeticException e) {
            return -15;
        }
    }

    int trace(int i) { return i < 0 || i >= Math.min(30, trace.size()) ? NONE : trace.get(i); }

    int many(int what) {
        if (what < 0 || what > 6) return BAD;
        return new int[] {w.ships.size(), w.rules.size(), Integer.bitCount(w.homes()), w.reports.size(), rows.size(),
            tape.length(), Math.min(30, trace.size())}[what];
    }

    int keep() { kept = w.copy(); return 1; }

    int again() {
        if (kept == null) return NONE;
        w = kept.copy();
        return w.ships.size();
    }
}
