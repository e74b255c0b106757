import java.util.ArrayList;
import java.util.List;
import java.util.Random;

/** Runs of chosen calls on the class and on the document written another way: every answer must be the same. */
public final class ModelTest {
    private static int wrong = 0;
    private static long compared = 0;
    private final Random random;
    private final int run;
    private final ClothPull real = new ClothPull();
    private final Model model = new Model();
    private final StringBuilder calls = new StringBuilder();

    private ModelTest(int run) {
        this.run = run;
        this.random = new Random(run);
    }

    public static void main(String[] args) {
        int runs = args.length > 0 ? Integer.parseInt(args[0]) : 1500;
        int from = args.length > 1 ? Integer.parseInt(args[1]) : 0;
        for (int run = from; run < from + runs && wrong < 5; run++) {
            new ModelTest(run).go();
        }
        System.out.println(wrong == 0 ? "the same " + compared + " answers" : wrong + " answers differ");
        if (wrong != 0) System.exit(1);
    }

    private boolean same(String call, long got, long want) {
        compared++;
        calls.append(call).append(" -> ").append(got).append('\n');
        if (got != want) {
            wrong++;
            System.out.println("run " + run + ":\n" + calls + "due is " + want);
        }
        return got == want;
    }

    private int n(int below) { return random.nextInt(below); }
    private boolean one(int in) { return n(in) == 0; }
    /** A number from low to high, now and then one beside them. */
    private int near(int low, int high) { return one(25) ? (one(2) ? low - 1 - n(3) : high + 1 + n(3)) : low + n(high - low + 1); }
    private static long b(boolean b) { return b ? 1 : 0; }

    private void go() {
        for (int i = 0; i < 12; i++) setUp();
        int many = 40 + n(60);
        for (int i = 0; i < many && wrong == 0; i++) {
            if (i % 12 == 0 && !one(4)) lively();
            if (one(6)) setUp(); else ask();
        }
    }

    /** A table on which much goes on: close things near the edge, a law that lets them slide, rock, spill and fall. */
    private void lively() {
        int l = 12 + n(60), f = one(2) ? n(64) : 0;
        same("table(" + l + "," + f + ")", b(real.table(l, f)), b(model.table(l, f)));
        int e = one(4) ? n(l + 1) : l;
        same("cloth(" + e + ")", b(real.cloth(e)), b(model.cloth(e)));
        int things = 1 + n(one(3) ? 10 : 5);
        for (int k = 0; k < things; k++) {
            int i = n(10), d = n(4), p = n(l), w = 3 + n(14), h = 1 + n(20), g = 1 + n(99);
            same("thing(" + i + "," + d + "," + p + "," + w + "," + h + "," + g + ")",
                b(real.thing(i, d, p, w, h, g)), b(model.thing(i, d, p, w, h, g)));
            int wet = one(2) ? 0 : n(10), full = n(10), v = n(1000);
            if (!one(3)) same("more(" + i + "," + wet + "," + full + "," + v + ")", b(real.more(i, wet, full, v)), b(model.more(i, wet, full, v)));
        }
        if (one(3)) same("keep()", real.keep(), model.keep());
        StringBuilder law = new StringBuilder();
        String[] amounts = {"1", "2", "3", "2+w", "1+k", "1", "[g/9]+1", "u/2+1", "f-w", "9-w", "x%4", "t+1", "l", "c", "c-u", "i+1", "p", "9-p", "1+p"};
        for (char letter : "abszjhab".toCharArray()) {
            if (one(5)) continue;
            if (law.length() > 0) law.append(';');
            String amount = letter == 'b' ? "" + (3 + n(40)) + (one(3) ? "-u" : one(3) ? "-g/5" : "") : letter == 'h' ? (one(2) ? "r/2" : "r") : amounts[n(amounts.length)];
            law.append(letter).append(amount).append('(').append(one(2) ? "t=t" : one(3) ? any(2) : simple()).append(')');
        }
        if (one(15) || law.length() == 0 || law.length() > 200) law = new StringBuilder(lawText());
        if (feed(bytes(law.toString()))) same("law " + law, real.law(law.length()), model.law(law.length()));
        StringBuilder pull = new StringBuilder();
        for (int i = 0, steps = 1 + n(4); i < steps; i++) pull.append(i > 0 ? "," : "").append(2 + n(14)).append('*').append(2 + n(5));
        if (feed(bytes(pull.toString()))) same("pull " + pull, real.pull(pull.length()), model.pull(pull.length()));
    }

    private void setUp() {
        switch (n(12)) {
            case 0: {
                if (!one(3)) return;
                int l = near(10, 200), f = one(2) ? 0 : near(0, 63);
                same("table(" + l + "," + f + ")", b(real.table(l, f)), b(model.table(l, f)));
                return;
            }
            case 1: {
                int e = near(0, model.now.length);
                same("cloth(" + e + ")", b(real.cloth(e)), b(model.cloth(e)));
                return;
            }
            case 2: case 3: case 4: case 5: {
                int i = near(0, one(3) ? 9 : 4), k = near(0, 3), p = near(0, model.now.length - 1), f = near(1, one(2) ? 40 : 12);
                int h = near(1, one(3) ? 60 : 15), w = near(1, 99);
                same("thing(" + i + "," + k + "," + p + "," + f + "," + h + "," + w + ")",
                    b(real.thing(i, k, p, f, h, w)), b(model.thing(i, k, p, f, h, w)));
                return;
            }
            case 6: case 7: {
                int i = near(0, 9), w = one(2) ? 0 : near(0, 9), f = near(0, 9), v = near(0, 999);
                same("more(" + i + "," + w + "," + f + "," + v + ")", b(real.more(i, w, f, v)), b(model.more(i, w, f, v)));
                return;
            }
            case 8: case 9: {
                String text = pullText();
                if (feed(bytes(text))) same("pull " + text, real.pull(text.length()), model.pull(text.length()));
                return;
            }
            default: {
                String text = lawText();
                if (text.length() <= 200 && feed(bytes(text))) same("law " + text, real.law(text.length()), model.law(text.length()));
            }
        }
    }

    private void ask() {
        switch (n(24)) {
            case 0: { int i = near(0, 9); if (one(4)) same("away(" + i + ")", b(real.away(i)), b(model.away(i))); return; }
            case 1: case 2: case 3: case 4: {
                for (int k = 0; k < 9; k++) same("still(" + k + ")", real.still(k), model.still(k));
                for (int k = 0; k < 6; k++) { int w = near(0, 70); same("still(" + w + ")", real.still(w), model.still(w)); }
                return;
            }
            case 5: case 6: case 7: {
                for (int k = 0; k < 9; k++) same("tried(" + k + ")", real.tried(k), model.tried(k));
                for (int k = 0; k < 6; k++) { int w = near(0, 70); same("tried(" + w + ")", real.tried(w), model.tried(w)); }
                return;
            }
            case 8: if (one(2)) same("done()", real.done(), model.done()); return;
            case 9: case 10: {
                for (int i = -1; i < 11; i++) { int w = near(0, 7); same("thingIs(" + i + "," + w + ")", real.thingIs(i, w), model.thingIs(i, w)); }
                return;
            }
            case 11: same("pace()", real.pace(), model.pace()); return;
            case 12: {
                if (!one(6)) return;
                int[] best = model.best();
                for (int w = -1; w < 6; w++) same("best(" + w + ")", real.best(w), w < 0 || w > 4 ? -1 : best[w]);
                return;
            }
            case 13: {
                if (!one(3)) return;
                int set = one(2) ? model.now.bits() : n(1024) & model.now.bits();
                if (one(30)) set = random.nextInt();
                for (int k = 0; k < 5; k++) { int w = near(0, 11); same("put(" + set + "," + w + ")", real.put(set, w), model.put(set, w)); }
                if (one(2)) same("put(" + set + ",12)", real.put(set, 12), model.put(set, 12));
                return;
            }
            case 14: if (one(3)) for (int w = -1; w < 3; w++) same("most(" + w + ")", real.most(w), model.most(w)); return;
            case 15: case 16: {
                for (int k = 0; k < 12; k++) { int q = near(0, 9), w = near(0, 3); same("worth(" + q + "," + w + ")", real.worth(q, w), model.worth(q, w)); }
                return;
            }
            case 17: wetOrQuick(); return;
            case 18: {
                int k = one(6) ? 3 : near(1, 2), s = near(0, model.now.things.size()), w = near(0, 1), prize = near(0, 9999);
                if (one(2)) same("odds(" + k + "," + s + "," + w + ")", real.odds(k, s, w), model.odds(k, s, w));
                else same("should(" + k + "," + prize + ")", real.should(k, prize), model.should(k, prize));
                return;
            }
            case 19: { int s = near(0, 10), t = near(0, 9), o = near(2, one(2) ? 20 : 9999); same("practice(" + s + "," + t + "," + o + ")", real.practice(s, t, o), model.practice(s, t, o)); return; }
            case 20: { int x = near(0, 65535); same("seed(" + x + ")", b(real.seed(x)), b(model.seed(x))); return; }
            case 21: if (one(2)) same("keep()", real.keep(), model.keep()); else same("undo()", b(real.undo()), b(model.undo())); return;
            case 22: {
                List<Integer> l = new ArrayList<>();
                for (int i = 0; i < 10; i++) {
                    int v = model.thingIs(i, 1);
                    v = one(15) ? random.nextInt() : v < 0 ? 0 : v;
                    for (int s = 24; s >= 0; s -= 8) l.add(v >>> s & 255);
                }
                if (one(3) || feed(l)) { int k = near(0, 10); same("check(" + k + ")", real.check(k), model.check(k)); }
                return;
            }
            default:
                for (int w = -1; w < 9; w++) same("count(" + w + ")", real.count(w), model.count(w));
                for (int w = 98; w < 161; w += 1 + n(5)) same("count(" + w + ")", real.count(w), model.count(w));
        }
    }

    /** The places are fed as they are behind some evening that may have been. */
    private void wetOrQuick() {
        List<Integer> l = new ArrayList<>();
        boolean quick = one(2);
        Model.State s = model.now.copy();
        for (Model.Item t : s.things.values()) if (one(3)) t.wet = quick ? t.wet : n(10);
        Model.End e = model.steady(s, quick ? Model.even(1 + n(40), s.end) : model.pull);
        for (Model.Item t : e.things.values()) l.add(one(20) ? n(256) : t.over ? 255 : t.place);
        if (one(10)) l.clear();
        for (int w = -1; w < 4; w++) {
            if (!one(6) && !feed(l)) return;
            if (quick) same("howQuick(" + w + ")", real.howQuick(w), model.howQuick(w));
            else same("wasWet(" + w + ")", real.wasWet(w), model.wasWet(w));
        }
    }

    private static List<Integer> bytes(String text) {
        List<Integer> l = new ArrayList<>();
        for (char c : text.toCharArray()) l.add((int) c);
        return l;
    }

    /** Feeds bytes, twenty by twenty; what is on the tape yet is taken off ahead of it. */
    private boolean feed(List<Integer> l) {
        if (!one(10)) { real.check(0); model.check(0); }
        for (int at = 0; at < l.size(); at += 20) {
            int[] v = new int[5];
            for (int k = 0; k < 20; k++) v[k / 4] |= (at + k < l.size() ? l.get(at + k) : 97) << (24 - 8 * (k % 4));
            if (!same("feed", real.feed(v[0], v[1], v[2], v[3], v[4]), model.feed(v[0], v[1], v[2], v[3], v[4]))) return false;
        }
        return true;
    }

    private String pullText() {
        StringBuilder s = new StringBuilder();
        int steps = one(8) ? 20 + n(3) : 1 + n(6);
        for (int i = 0; i < steps; i++) {
            if (i > 0) s.append(',');
            s.append(one(30) ? 41 + n(60) : n(one(3) ? 41 : 15));
            if (!one(3)) s.append('*').append(2 + n(one(2) ? 8 : 3));
        }
        return cut(spoil(s, "0123456789*,x- "), 120);
    }

    private static String cut(String s, int most) { return s.length() > most ? s.substring(0, most) : s; }

    private String spoil(StringBuilder s, String signs) {
        for (int i = 0; i < 3 && one(i == 0 ? 5 : 2); i++) {
            if (s.length() == 0) break;
            int at = n(s.length());
            char c = one(20) ? (char) n(256) : signs.charAt(n(signs.length()));
            switch (n(4)) {
                case 0: s.deleteCharAt(at); break;
                case 1: s.insert(at, c); break;
                case 2: s.setCharAt(at, c); break;
                default: s.setLength(at + 1);
            }
        }
        return s.length() == 0 ? "x" : s.toString();
    }

    private String lawText() {
        StringBuilder s = new StringBuilder();
        int clauses = one(8) ? 12 + n(4) : 1 + n(8);
        boolean plain = clauses > 9;
        for (int i = 0; i < clauses; i++) {
            if (i > 0) s.append(';');
            char letter = "aaashhjjbbbzz".charAt(n(13));
            s.append(letter);
            if (plain || one(2)) s.append(letter == 'b' ? n(40) : n(7)); else s.append(sum(2));
            s.append('(').append(plain ? "t=t" : one(2) ? simple() : any(one(4) ? 5 : 2)).append(')');
        }
        if (one(6)) nest(s);
        return cut(spoil(s, "ashjbztprikxfgwluc0123456789()[]!|&<>=+-*/%;"), 200);
    }

    /** Opens some more of the signs that may be open in one another, somewhere. */
    private void nest(StringBuilder s) {
        int at = n(s.length());
        char c = s.charAt(at);
        if (c == '(' || c == '&' || c == '|') {
            for (int i = n(8); i >= 0; i--) {
                boolean not = one(2);
                s.insert(at + 1, not ? '!' : '(');
                if (!not && one(2)) s.append(')');
            }
        } else if ("+-*/%<>=[".indexOf(c) >= 0) {
            for (int i = n(8); i >= 0; i--) s.insert(at + 1, '[');
        }
    }

    private String simple() {
        switch (n(5)) {
            case 0: return "t=t";
            case 1: return "k=" + n(4);
            case 2: return "w>" + n(4);
            case 3: return "u<" + n(8);
            default: return "t>" + n(5);
        }
    }
    private String any(int d) { return every(d) + (one(3) ? "|" + every(d) : ""); }
    private String every(int d) { return piece(d) + (one(3) ? "&" + piece(d) : ""); }
    private String piece(int d) {
        if (d > 0 && one(4)) return "!" + piece(d - 1);
        if (d > 0 && one(4)) return "(" + any(d - 1) + ")";
        return sum(d > 0 ? d - 1 : 0) + "<>=".charAt(n(3)) + sum(d > 0 ? d - 1 : 0);
    }
    private String sum(int d) { return product(d) + (one(3) ? "+-".charAt(n(2)) + product(d) : ""); }
    private String product(int d) { return factor(d) + (one(3) ? "*/%".charAt(n(3)) + factor(d) : ""); }
    private String factor(int d) {
        if (d > 0 && one(4)) return "[" + sum(d - 1) + "]";
        if (one(2)) return "" + (one(10) ? n(120000) : n(10));
        return "" + "tprikxfgwluc".charAt(n(12));
    }
}
