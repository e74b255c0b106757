import java.util.ArrayList;
import java.util.Arrays;
import java.util.Comparator;
import java.util.HashMap;
import java.util.List;
import java.util.Map;
import java.util.TreeMap;
import java.util.function.IntPredicate;
import java.util.function.ToIntFunction;

/**
 * The document once more, written another way than the class: texts are judged sign by sign with a stack of what
 * is open, laws are trees of functions, an evening makes new things. It may be slow and may use the Java library.
 */
final class Model {
    static final class Refused extends RuntimeException {
        private static final long serialVersionUID = 1L;
    }

    /** A told thing; in an evening also how it goes. */
    static final class Item {
        int number, kind, place, foot, height, weight, wet, filled, worth;
        int speed, ahead;
        boolean fallen, over, rocked, touched, spilt, onCloth, touchesNow;
        int cloth, wood, touching;

        Item fresh() {
            Item c = new Item();
            c.number = number; c.kind = kind; c.place = place; c.foot = foot; c.height = height;
            c.weight = weight; c.wet = wet; c.filled = filled; c.worth = worth;
            return c;
        }
        boolean stands() { return !fallen && !over; }
        int inches() { return cloth + wood + touching; }
    }

    static final class State {
        int length = 100, end = 100, folds = 0, x = 1;
        TreeMap<Integer, Item> things = new TreeMap<>();

        State copy() {
            State s = new State();
            s.length = length; s.end = end; s.folds = folds; s.x = x;
            things.forEach((k, v) -> s.things.put(k, v.fresh()));
            return s;
        }
        int bits() { int b = 0; for (int k : things.keySet()) b |= 1 << k; return b; }
    }

    static final class End {
        Map<Integer, Item> things;
        int ticks, end, x;

        int standing() { int n = 0; for (Item t : things.values()) if (t.stands()) n++; return n; }
        boolean all() { return standing() == things.size(); }
        int inches() { int n = 0; for (Item t : things.values()) n += t.inches(); return n; }
        int bits(java.util.function.Predicate<Item> p) {
            int b = 0;
            for (Item t : things.values()) if (p.test(t)) b |= 1 << t.number;
            return b;
        }
    }

    interface Drawer { int draw(int tick); }

    static final class Clause {
        char letter;
        ToIntFunction<Map<Character, Integer>> amount;
        ToIntFunction<Map<Character, Integer>> holds;
    }

    State now = new State();
    State kept = null;
    List<Integer> tape = new ArrayList<>();
    List<Integer> pull = new ArrayList<>();
    List<Clause> law = new ArrayList<>();

    // ---- texts

    /** 0, or -1000 times the fault less its place; the paces come into the list. */
    static int readPull(List<Integer> text, List<Integer> paces) {
        int i = 0, steps = 0, n = text.size();
        IntPredicate digit = k -> k < n && Character.isDigit((char) (int) text.get(k)) && text.get(k) < 128;
        while (true) {
            if (!digit.test(i)) return -1000 - i;
            if (++steps == 21) return -4000 - i;
            int first = i;
            String s = "" + (char) (int) text.get(i++);
            if (digit.test(i)) s += (char) (int) text.get(i++);
            int pace = Integer.parseInt(s);
            if (pace > 40) return -3000 - first;
            int times = 1;
            if (i < n && text.get(i) == '*') {
                i++;
                if (!digit.test(i) || text.get(i) < '2') return -1000 - i;
                times = text.get(i++) - '0';
            }
            for (int k = 0; k < times; k++) paces.add(pace);
            if (paces.size() > 60) return -6000 - first;
            if (i == n) return 0;
            if (text.get(i) != ',') return -1000 - i;
            i++;
        }
    }

    /** Judges a law sign by sign, with a stack of the signs that are open; 0 or the fault. */
    static int judgeLaw(List<Integer> text) {
        StringBuilder open = new StringBuilder();
        int clauses = 0, digits = 0;
        String state = "letter";
        String base = "";
        for (int i = 0; i <= text.size(); i++) {
            int c = i < text.size() ? text.get(i) : -1;
            boolean isDigit = c >= '0' && c <= '9';
            if (state.equals("number")) {
                if (isDigit) {
                    if (++digits > 5) return -2000 - i;
                    continue;
                }
                state = "behind";
            }
            if (state.equals("letter")) {
                if (c < 0 || "ashjbz".indexOf(c) < 0) return -1000 - i;
                if (++clauses > 14) return -4000 - i;
                state = "factor";
                base = "clause";
            } else if (state.equals("factor") || state.equals("piece")) {
                if (isDigit) {
                    if (state.equals("piece")) base = "left";
                    state = "number";
                    digits = 1;
                } else if (c > 0 && "tprikxfgwluc".indexOf(c) >= 0) {
                    if (state.equals("piece")) base = "left";
                    state = "behind";
                } else if (c == '[' || state.equals("piece") && (c == '(' || c == '!')) {
                    if (open.length() == 6) return -5000 - i;
                    open.append((char) c);
                    if (c == '[') {
                        if (state.equals("piece")) base = "left";
                        state = "factor";
                    }
                } else {
                    return -1000 - i;
                }
            } else if (state.equals("behind")) {
                boolean inBracket = open.length() > 0 && open.charAt(open.length() - 1) == '[';
                if (c > 0 && "+-*/%".indexOf(c) >= 0) {
                    state = "factor";
                } else if (inBracket) {
                    if (c != ']') return -1000 - i;
                    open.setLength(open.length() - 1);
                } else if (base.equals("clause")) {
                    if (c != '(') return -1000 - i;
                    open.append('(');
                    state = "piece";
                } else if (base.equals("left")) {
                    if (c != '<' && c != '>' && c != '=') return -1000 - i;
                    state = "factor";
                    base = "right";
                } else {
                    closePiece(open);
                    state = "behindPiece";
                }
            }
            if (state.equals("behindPiece")) {
                if (c == '&' || c == '|') {
                    state = "piece";
                } else if (c == ')') {
                    open.setLength(open.length() - 1);
                    closePiece(open);
                    if (open.length() == 0) state = "behindClause";
                } else {
                    return -1000 - i;
                }
            } else if (state.equals("behindClause")) {
                if (c == -1) return 0;
                if (c != ';') return -1000 - i;
                state = "letter";
            }
        }
        return 0;
    }

    private static void closePiece(StringBuilder open) {
        while (open.length() > 0 && open.charAt(open.length() - 1) == '!') open.setLength(open.length() - 1);
    }

    /** A law that was judged well, as trees. */
    static final class Trees {
        final String s;
        int i = 0;
        Trees(String s) { this.s = s; }
        char c() { return i < s.length() ? s.charAt(i) : 0; }

        List<Clause> all() {
            List<Clause> list = new ArrayList<>();
            do {
                Clause k = new Clause();
                k.letter = s.charAt(i++);
                k.amount = sum();
                i++;
                k.holds = any();
                i++;
                list.add(k);
            } while (i++ < s.length());
            return list;
        }
        ToIntFunction<Map<Character, Integer>> any() {
            var a = every();
            while (c() == '|') { i++; var l = a; var r = every(); a = m -> l.applyAsInt(m) != 0 ? 1 : r.applyAsInt(m); }
            return a;
        }
        ToIntFunction<Map<Character, Integer>> every() {
            var a = piece();
            while (c() == '&') { i++; var l = a; var r = piece(); a = m -> l.applyAsInt(m) == 0 ? 0 : r.applyAsInt(m); }
            return a;
        }
        ToIntFunction<Map<Character, Integer>> piece() {
            if (c() == '!') { i++; var p = piece(); return m -> p.applyAsInt(m) == 0 ? 1 : 0; }
            if (c() == '(') { i++; var p = any(); i++; return p; }
            var l = sum();
            char op = s.charAt(i++);
            var r = sum();
            return m -> {
                int a = l.applyAsInt(m), b = r.applyAsInt(m);
                return (op == '<' ? a < b : op == '>' ? a > b : a == b) ? 1 : 0;
            };
        }
        ToIntFunction<Map<Character, Integer>> sum() {
            var a = product();
            while (c() == '+' || c() == '-') {
                char op = s.charAt(i++);
                var l = a;
                var r = product();
                a = m -> op == '+' ? l.applyAsInt(m) + r.applyAsInt(m) : l.applyAsInt(m) - r.applyAsInt(m);
            }
            return a;
        }
        ToIntFunction<Map<Character, Integer>> product() {
            var a = factor();
            while (c() == '*' || c() == '/' || c() == '%') {
                char op = s.charAt(i++);
                var l = a;
                var r = factor();
                a = m -> {
                    int x = l.applyAsInt(m), y = r.applyAsInt(m);
                    if (op == '*') return x * y;
                    if (y == 0) throw new Refused();
                    return op == '/' ? x / y : x % y;
                };
            }
            return a;
        }
        ToIntFunction<Map<Character, Integer>> factor() {
            if (c() == '[') { i++; var e = sum(); i++; return e; }
            if (Character.isDigit(c())) {
                int from = i;
                while (Character.isDigit(c())) i++;
                int v = Integer.parseInt(s.substring(from, i));
                return m -> v;
            }
            char letter = s.charAt(i++);
            return m -> m.getOrDefault(letter, 0);
        }
    }

    int ask(char letter, Map<Character, Integer> about) {
        int low = letter == 's' ? 1 : 0;
        int high = letter == 'b' ? 999 : letter == 'z' ? 99 : 40;
        for (Clause k : law) {
            if (k.letter != letter) continue;
            boolean holds;
            try { holds = k.holds.applyAsInt(about) != 0; } catch (Refused r) { holds = false; }
            if (!holds) continue;
            int v;
            try { v = k.amount.applyAsInt(about); } catch (Refused r) { v = 0; }
            return v < low ? low : v > high ? high : v;
        }
        return low;
    }

    // ---- an evening

    End evening(State s, List<Integer> paces, Drawer drawer) {
        End e = new End();
        e.things = s.copy().things;
        e.end = s.end;
        List<Integer> folds = new ArrayList<>();
        for (int q = 0; q < 6; q++) {
            if ((s.folds >> q & 1) == 1 && q * s.length / 6 < s.end) folds.add(q * s.length / 6);
        }
        int t = 0;
        while (t < 300 && (t < paces.size() || moving(e))) {
            oneTick(e, folds, paces, drawer, t);
            t++;
        }
        e.ticks = t;
        return e;
    }

    private static boolean moving(End e) {
        for (Item i : e.things.values()) if (i.stands() && i.speed != 0) return true;
        return false;
    }

    private void oneTick(End e, List<Integer> folds, List<Integer> paces, Drawer drawer, int t) {
        int told = t < paces.size() ? paces.get(t) : 0;
        int quick = told;
        if (t < paces.size() && drawer != null) {
            int r = drawer.draw(t);
            if (r >= 0) {
                Map<Character, Integer> m = new HashMap<>();
                m.put('t', t); m.put('p', told); m.put('r', r);
                quick = Math.max(0, told - ask('h', m));
            }
        }
        e.end = Math.max(0, e.end - quick);
        List<Integer> foldsBefore = new ArrayList<>(folds);
        for (int f = 0; f < folds.size(); f++) folds.set(f, folds.get(f) - quick);
        List<Item> standing = new ArrayList<>();
        for (Item i : e.things.values()) if (i.stands()) standing.add(i);
        for (Item i : standing) {
            i.touchesNow = false;
            Map<Character, Integer> m = new HashMap<>();
            m.put('t', t); m.put('p', told); m.put('i', i.number); m.put('k', i.kind); m.put('x', i.place);
            m.put('f', i.foot); m.put('g', i.weight); m.put('w', i.wet); m.put('l', i.filled);
            m.put('u', i.speed); m.put('c', quick);
            int a = ask('a', m), s = ask('s', m), j = ask('j', m), b = ask('b', m), z = ask('z', m);
            int before = i.speed;
            i.onCloth = i.place < e.end;
            if (i.onCloth) {
                if (i.speed > quick) i.speed--;
                else i.speed = Math.min(quick, i.speed + a);
                boolean passed = false;
                for (int f = 0; f < folds.size(); f++) passed |= foldsBefore.get(f) >= i.place && folds.get(f) < i.place;
                if (passed) i.speed += j;
            } else {
                i.speed = Math.max(0, i.speed - s);
            }
            int change = Math.abs(i.speed - before);
            int tilt = change * i.height / i.foot;
            if (change > z && i.filled > 0) { i.filled--; i.spilt = true; }
            if (tilt > b) { i.fallen = true; i.speed = 0; }
            else if (tilt > b / 2) i.rocked = true;
        }
        List<Item> row = new ArrayList<>();
        for (Item i : standing) {
            if (i.fallen) continue;
            i.ahead = i.place;
            i.place -= i.speed;
            if (i.place < 0) i.over = true; else row.add(i);
        }
        row.sort(Comparator.<Item>comparingInt(i -> i.place).thenComparingInt(i -> i.number));
        for (int k = 1; k < row.size(); k++) {
            Item front = row.get(k - 1), behind = row.get(k);
            int near = (front.foot + behind.foot) / 2;
            if (behind.place - front.place < near && behind.speed > front.speed) {
                int one = (front.speed * front.weight + behind.speed * behind.weight) / (front.weight + behind.weight);
                front.speed = one;
                behind.speed = one;
                behind.place = Math.min(front.place + near, behind.ahead);
                front.touched = behind.touched = front.touchesNow = behind.touchesNow = true;
            }
        }
        for (Item i : standing) {
            if (i.fallen) continue;
            int way = i.ahead - i.place;
            if (i.touchesNow) i.touching += way;
            else if (i.onCloth) i.cloth += way;
            else i.wood += way;
        }
    }

    End steady(State s, List<Integer> paces) { return evening(s, paces, null); }

    End tryIt() {
        int[] x = {now.x};
        End e = evening(now, pull, t -> { x[0] = (int) ((25173L * x[0] + 13849L) % 65536L); return x[0] % 10; });
        e.x = x[0];
        return e;
    }

    static List<Integer> even(int pace, int end) {
        List<Integer> p = new ArrayList<>();
        for (int left = end; left > 0 && p.size() < 60; left -= pace) p.add(pace);
        return p;
    }

    // ---- the calls

    boolean table(int length, int folds) {
        if (length < 10 || length > 200 || folds < 0 || folds > 63) return false;
        now.length = length; now.end = length; now.folds = folds; now.things.clear();
        return true;
    }
    boolean cloth(int end) {
        if (end < 0 || end > now.length) return false;
        now.end = end;
        return true;
    }
    boolean thing(int i, int kind, int place, int foot, int height, int weight) {
        if (i < 0 || i > 9 || kind < 0 || kind > 3 || place < 0 || place > now.length - 1 || foot < 1 || foot > 40
            || height < 1 || height > 60 || weight < 1 || weight > 99) return false;
        Item t = new Item();
        t.number = i; t.kind = kind; t.place = place; t.foot = foot; t.height = height; t.weight = weight;
        now.things.put(i, t);
        return true;
    }
    boolean more(int i, int wet, int filled, int worth) {
        Item t = now.things.get(i);
        if (t == null || wet < 0 || wet > 9 || filled < 0 || filled > 9 || worth < 0 || worth > 999) return false;
        t.wet = wet; t.filled = filled; t.worth = worth;
        return true;
    }
    boolean away(int i) { return now.things.remove(i) != null; }
    int feed(int a, int b, int c, int d, int e) {
        if (tape.size() + 20 > 220) return -1;
        for (int v : new int[] {a, b, c, d, e}) for (int s = 24; s >= 0; s -= 8) tape.add(v >>> s & 255);
        return tape.size();
    }
    private List<Integer> take(int n) {
        List<Integer> l = new ArrayList<>(tape.subList(0, n));
        tape.clear();
        return l;
    }
    int pull(int n) {
        if (n < 1 || n > 120 || n > tape.size()) return -1;
        List<Integer> paces = new ArrayList<>();
        int f = readPull(take(n), paces);
        if (f != 0) return f;
        pull = paces;
        return pull.size();
    }
    int law(int n) {
        if (n < 1 || n > 200 || n > tape.size()) return -1;
        List<Integer> text = take(n);
        int f = judgeLaw(text);
        if (f != 0) return f;
        StringBuilder s = new StringBuilder();
        for (int c : text) s.append((char) c);
        law = new Trees(s.toString()).all();
        return law.size();
    }
    private static int tell(End e, int what) {
        switch (what) {
            case 0: return e.standing();
            case 1: return e.inches();
            case 2: return e.ticks;
            case 3: return e.end;
            case 4: return e.bits(t -> t.fallen);
            case 5: return e.bits(t -> t.over);
            case 6: return e.bits(t -> t.rocked);
            case 7: return e.bits(t -> t.touched);
            case 8: return e.bits(t -> t.spilt);
            default:
        }
        if (what < 10 || what > 69) return -1;
        Item t = e.things.get(what % 10);
        if (t == null) return -1;
        switch (what / 10) {
            case 1: return t.over ? -1 : t.place;
            case 2: return t.inches();
            case 3: return t.cloth;
            case 4: return t.wood;
            case 5: return t.touching;
            default: return t.filled;
        }
    }
    int tried(int what) { return tell(tryIt(), what); }
    int still(int what) { return tell(steady(now, pull), what); }
    int done() {
        if (pull.isEmpty()) return -1;
        End e = tryIt();
        for (Item t : e.things.values()) {
            Item mine = now.things.get(t.number);
            if (t.over) { now.things.remove(t.number); continue; }
            mine.place = t.place;
            mine.filled = t.filled;
            if (t.fallen) mine.height = 1;
        }
        now.end = e.end;
        now.x = e.x;
        return e.standing();
    }
    int thingIs(int i, int what) {
        Item t = now.things.get(i);
        if (t == null || what < 0 || what > 7) return -1;
        return new int[] {t.kind, t.place, t.foot, t.height, t.weight, t.wet, t.filled, t.worth}[what];
    }
    int pace() {
        for (int p = 1; p <= 40; p++) if (steady(now, even(p, now.end)).all()) return p;
        return -2;
    }
    int[] best() {
        int[] best = null;
        for (int p = 1; p <= 12; p++) for (int q = 1; q <= 12; q++) for (int k = 1; k <= 6; k++) {
            List<Integer> paces = new ArrayList<>();
            for (int i = 0; i < k; i++) paces.add(p);
            int left = now.end - p * k;
            while (left > 0 && paces.size() < 60) { paces.add(q); left -= q; }
            End e = steady(now, paces);
            if (best == null || e.standing() > best[3] || e.standing() == best[3] && e.inches() < best[4]) {
                best = new int[] {p, q, k, e.standing(), e.inches()};
            }
        }
        return best;
    }
    int put(int things, int what) {
        if (Integer.bitCount(things) < 2 || Integer.bitCount(things) > 5 || (things & ~now.bits()) != 0) return -1;
        if (what < 0 || what > 12 || what < 10 && (things >> what & 1) == 0) return -1;
        List<Integer> who = new ArrayList<>();
        for (int i = 0; i < 10; i++) if ((things >> i & 1) == 1) who.add(i);
        List<List<Integer>> rows = new ArrayList<>();
        rows(who, new ArrayList<>(), rows);
        int stand = -1, inches = 0;
        List<Integer> best = null;
        for (List<Integer> row : rows) {
            End e = steady(placed(who, row), pull);
            if (e.standing() > stand || e.standing() == stand && e.inches() < inches) {
                stand = e.standing(); inches = e.inches(); best = row;
            }
        }
        if (what == 11) return inches;
        if (what < 10) return best.get(who.indexOf(what));
        if (what == 12) now = placed(who, best);
        return stand;
    }
    private State placed(List<Integer> who, List<Integer> row) {
        State s = now.copy();
        for (int k = 0; k < who.size(); k++) s.things.get(who.get(k)).place = now.things.get(row.get(k)).place;
        return s;
    }
    private static void rows(List<Integer> who, List<Integer> sofar, List<List<Integer>> all) {
        if (sofar.size() == who.size()) { all.add(new ArrayList<>(sofar)); return; }
        for (int w : who) {
            if (sofar.contains(w)) continue;
            sofar.add(w);
            rows(who, sofar, all);
            sofar.remove(sofar.size() - 1);
        }
    }
    int most(int what) {
        if (what < 0 || what > 1) return -1;
        int best = 0;
        for (int set = 0; set < 1024; set++) {
            if ((set & ~now.bits()) != 0) continue;
            State s = now.copy();
            for (int i = 0; i < 10; i++) if ((set >> i & 1) == 0) s.things.remove(i);
            if (steady(s, pull).all() && Integer.bitCount(set) > Integer.bitCount(best)) best = set;
        }
        return what == 0 ? Integer.bitCount(best) : best;
    }
    int worth(int q, int what) {
        State s = now.copy();
        if (what == 0 || what == 1) {
            if (q < 0 || q > 5 || (now.folds >> q & 1) == 0 || q * now.length / 6 >= now.end) return -100000;
            s.folds -= 1 << q;
        } else if (what == 2 || what == 3) {
            if (!now.things.containsKey(q) || now.things.get(q).wet == 0) return -100000;
            s.things.get(q).wet = 0;
        } else {
            return -100000;
        }
        End was = steady(now, pull), is = steady(s, pull);
        return what % 2 == 0 ? is.standing() - was.standing() : was.inches() - is.inches();
    }
    private boolean fits(End e, List<Integer> told) {
        int k = 0;
        for (Item t : e.things.values()) if (told.get(k++) != (t.over ? 255 : t.place)) return false;
        return true;
    }
    int wasWet(int what) {
        if (what < 0 || what > 2 || now.things.isEmpty() || now.things.size() > tape.size()) return -1;
        List<Integer> told = take(now.things.size());
        List<int[]> twos = new ArrayList<>();
        for (int i : now.things.keySet()) for (int w = 0; w < 10; w++) {
            if (w == now.things.get(i).wet) continue;
            State s = now.copy();
            s.things.get(i).wet = w;
            if (fits(steady(s, pull), told)) twos.add(new int[] {i, w});
        }
        if (what == 0) return twos.size();
        return twos.isEmpty() ? -2 : twos.get(0)[what - 1];
    }
    int howQuick(int what) {
        if (what < 0 || what > 1 || now.things.isEmpty() || now.things.size() > tape.size()) return -1;
        List<Integer> told = take(now.things.size());
        List<Integer> paces = new ArrayList<>();
        for (int p = 1; p <= 40; p++) if (fits(steady(now, even(p, now.end)), told)) paces.add(p);
        if (what == 0) return paces.size();
        return paces.isEmpty() ? -2 : paces.get(0);
    }
    private List<End> overAll(int n) {
        List<End> ends = new ArrayList<>();
        int all = (int) Math.round(Math.pow(10, n));
        for (int d = 0; d < all; d++) {
            String s = String.format("%0" + n + "d", d);
            ends.add(evening(now, pull, t -> t < n ? s.charAt(t) - '0' : -1));
        }
        return ends;
    }
    int odds(int n, int standing, int what) {
        if (n < 1 || n > 3 || standing < 0 || standing > 10 || what < 0 || what > 1 || pull.isEmpty()) return -1;
        int good = 0, all = 0;
        for (End e : overAll(n)) { all++; if (e.standing() >= standing) good++; }
        for (int d = all; d > 1; d--) if (good % d == 0 && all % d == 0) { good /= d; all /= d; }
        return what == 0 ? good : all;
    }
    int should(int n, int prize) {
        if (n < 1 || n > 3 || prize < 0 || prize > 9999 || pull.isEmpty()) return -1000000000;
        int sum = 0;
        for (End e : overAll(n)) {
            if (e.all()) sum += prize;
            for (Item t : e.things.values()) if (!t.stands()) sum -= t.worth;
        }
        return sum;
    }
    int practice(int spoilt, int tenths, int of) {
        if (spoilt < 0 || spoilt > 10 || tenths < 0 || tenths > 9 || of < 2 || of > 9999) return -1;
        long m = spoilt * 100000;
        int n = 0;
        while (m * of >= 1000000) { m = m * tenths / 10; n++; }
        return n;
    }
    boolean seed(int x) {
        if (x < 0 || x > 65535) return false;
        now.x = x;
        return true;
    }
    int keep() { kept = now.copy(); return now.things.size(); }
    boolean undo() {
        if (kept == null) return false;
        now = kept.copy();
        return true;
    }
    int check(int n) {
        if (n < 0 || n > 10 || 4 * n > tape.size()) return -2;
        List<Integer> t = take(4 * n);
        for (int i = 0; i < n; i++) {
            int v = t.get(4 * i) << 24 | t.get(4 * i + 1) << 16 | t.get(4 * i + 2) << 8 | t.get(4 * i + 3);
            if (v != (now.things.containsKey(i) ? now.things.get(i).place : 0)) return i;
        }
        return -1;
    }
    int count(int what) {
        int[] plain = {now.length, now.end, now.folds, now.bits(), pull.size(), law.size(), tape.size(), now.x};
        if (what >= 0 && what < 8) return plain[what];
        return what >= 100 && what < 100 + pull.size() ? pull.get(what - 100) : -1;
    }
    @Override public String toString() { return "Model" + Arrays.toString(new int[] {now.length, now.end}); }
}
