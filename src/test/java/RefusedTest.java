import java.util.function.Supplier;

/**
 * A call that is refused (NONE, false) changes nothing but the tape, where it is told: behind each the object answers
 * as its twin, of which the call was not asked. So it is behind the calls that only tell something, too.
 */
public final class RefusedTest {
    private static final int BIG = Integer.MAX_VALUE;
    private static final int SMALL = Integer.MIN_VALUE;
    private static final int NO = ClothPull.NONE;
    private static final Due due = new Due();

    public static void main(String[] args) {
        tableAndCloth();
        things();
        moreAndAway();
        feeds();
        texts();
        faults();
        told();
        searches();
        comparisons();
        overDraws();
        practiceAndSeed();
        kept();
        checks();
        onlyTold();
        theBestIsKept();
        due.end();
    }

    /** The call is refused, and nothing is changed. */
    private static void refused(String name, Supplier<ClothPull> maker, int answer, Twins.Call call) {
        ClothPull x = maker.get();
        due.is(name, call.on(x), answer);
        Twins.alike(due, name, x, maker.get());
    }

    /** The call answers, and nothing is changed but that the tape is empty then. */
    private static void emptied(String name, Supplier<ClothPull> maker, int answer, Twins.Call call) {
        ClothPull x = maker.get();
        ClothPull y = maker.get();
        due.is(name, call.on(x), answer);
        due.is(name + ": its tape", x.count(6), 0);
        y.check(0);
        Twins.alike(due, name, x, y);
    }

    private static void no(String name, Twins.Call call) {
        refused(name, Twins::rich, NO, call);
    }

    private static void noSuch(String name, Twins.Call call) {
        refused(name, Twins::rich, 0, call);
    }

    private static void tableAndCloth() {
        for (int l : new int[] {9, 201, 0, -1, -10, -100, 10 + 256, 50 + 65536, BIG, SMALL, SMALL + 50})
            noSuch("table(" + l + ", 0)", x -> Twins.b(x.table(l, 0)));
        for (int f : new int[] {-1, 64, 65, 128, 1 << 31, BIG, SMALL})
            noSuch("table(60, " + f + ")", x -> Twins.b(x.table(60, f)));
        for (int e : new int[] {-1, 91, 100, 200, 256, -65536, 50 + 65536, BIG, SMALL})
            noSuch("cloth(" + e + ")", x -> Twins.b(x.cloth(e)));
    }

    private static void things() {
        int[] low = {0, 0, 0, 1, 1, 1};
        int[] high = {9, 3, 89, 40, 60, 99};
        int[] fits = {1, 2, 33, 4, 5, 6};
        for (int told : new int[] {1, 3}) {
            for (int k = 0; k < 6; k++) {
                for (int bad : new int[] {low[k] - 1, high[k] + 1, -fits[k] - 1, fits[k] + 256, fits[k] + 65536, BIG, SMALL, SMALL + fits[k]}) {
                    int[] v = fits.clone();
                    v[0] = told;
                    v[k] = bad;
                    noSuch("thing " + told + " with " + k + " as " + bad, x -> Twins.b(x.thing(v[0], v[1], v[2], v[3], v[4], v[5])));
                }
            }
        }
        for (int i : new int[] {10, 32, 33, 64, -31, -32}) noSuch("thing " + i, x -> Twins.b(x.thing(i, 1, 1, 1, 1, 1)));
        noSuch("a place of the table ahead of this one", x -> Twins.b(x.thing(1, 0, 99, 1, 1, 1)));
    }

    private static void moreAndAway() {
        int[] high = {9, 9, 9, 999};
        for (int k = 0; k < 4; k++) {
            for (int bad : new int[] {-1, high[k] + 1, high[k] + 257, 65536, BIG, SMALL}) {
                int[] v = {1, 2, 3, 4};
                v[k] = bad;
                noSuch("more with " + k + " as " + bad, x -> Twins.b(x.more(v[0], v[1], v[2], v[3])));
            }
        }
        for (int i : new int[] {3, 5, 8, 10, -1, 32, 33, -32, BIG, SMALL}) {
            noSuch("more of " + i, x -> Twins.b(x.more(i, 1, 1, 1)));
            noSuch("away of " + i, x -> Twins.b(x.away(i)));
        }
    }

    private static void feeds() {
        refused("feed of 220", Twins::full, NO, x -> x.feed(1, 2, 3, 4, 5));
        refused("feed of 220, of zeros", Twins::full, NO, x -> x.feed(0, 0, 0, 0, 0));
    }

    private static void texts() {
        for (int n : new int[] {0, -1, 21, 40, 120, 121, 276, BIG, SMALL}) {
            no("pull(" + n + ") of 20 bytes", x -> x.pull(n));
            refused("pull(" + n + ") without a pull, of no bytes", Twins::noPull, NO, x -> x.pull(n));
        }
        for (int n : new int[] {0, -1, 121, 200, 220, 221, BIG, SMALL}) refused("pull(" + n + ") of 220 bytes", Twins::full, NO, x -> x.pull(n));
        for (int n : new int[] {0, -1, 21, 40, 200, 201, 276, BIG, SMALL}) {
            no("law(" + n + ") of 20 bytes", x -> x.law(n));
            refused("law(" + n + ") of no bytes", Twins::noPull, NO, x -> x.law(n));
        }
        for (int n : new int[] {0, -1, 201, 220, 221, BIG, SMALL}) refused("law(" + n + ") of 220 bytes", Twins::full, NO, x -> x.law(n));
        for (int n : new int[] {1, 20}) {
            refused("pull(" + n + ") of no bytes", Twins::noTape, NO, x -> x.pull(n));
            refused("law(" + n + ") of no bytes", Twins::noTape, NO, x -> x.law(n));
        }
    }

    /** The pull and the law that were told stay, all of them, when a new one has a fault; the tape is empty then. */
    private static void faults() {
        String[] pulls = {"x", "5,6,7,x", "5,", "5,6*", "5,6*1", "41", "1,2,3,41", "9*9,9*9,9*9,9*9,9*9,9*9,9*7", "1,".repeat(20) + "1", "1*2,".repeat(20) + "1"};
        int[] pullFaults = {-1000, -1006, -1002, -1004, -1004, -3000, -3006, -6024, -4040, -4080};
        for (int i = 0; i < pulls.length; i++) {
            String text = pulls[i];
            emptied("pull " + text, Twins::rich, pullFaults[i], x -> Due.pull(x, text));
            emptied("a first pull " + text, Twins::noPull, pullFaults[i], x -> Due.pull(x, text));
        }
        String[] laws = {"x", "a1(t=t);x", "a1(t=t);", "a9", "h9(t=t);j123456(t=t)", "a[[[[[[[1]]]]]]](t=t)", "b9(((((((t=t)))))))", "b9(t=t);z9(!!!!!!t=t)",
            "a9(t=t);".repeat(14) + "a"};
        int[] lawFaults = {-1000, -1008, -1008, -1002, -2014, -5007, -5008, -5016, -4112};
        for (int i = 0; i < laws.length; i++) {
            String text = laws[i];
            emptied("law " + text, Twins::rich, lawFaults[i], x -> Due.law(x, text));
        }
        emptied("a pull of 120 bytes of a longer tape", Twins::full, -1000, x -> x.pull(120));
        emptied("a pull of one byte of a longer tape", Twins::full, -1000, x -> x.pull(1));
        emptied("a law of 200 bytes of a longer tape", Twins::full, -1000, x -> x.law(200));
    }

    private static void told() {
        for (int w : new int[] {-1, 9, 13, 15, 23, 38, 45, 57, 63, 68, 70, 71, 79, 80, 256, 65536, BIG, SMALL}) {
            no("still(" + w + ")", x -> x.still(w));
            no("tried(" + w + ")", x -> x.tried(w));
        }
        refused("done() without a pull", Twins::noPull, NO, ClothPull::done);
        for (int i : new int[] {-1, 3, 5, 10, 32, 33, BIG, SMALL}) no("thingIs(" + i + ", 1)", x -> x.thingIs(i, 1));
        for (int w : new int[] {-1, 8, 9, 256, BIG, SMALL}) no("thingIs(1, " + w + ")", x -> x.thingIs(1, w));
        for (int w : new int[] {-1, 8, 9, 50, 99, 105, 106, 160, 356, BIG, SMALL}) no("count(" + w + ")", x -> x.count(w));
    }

    private static void searches() {
        for (int w : new int[] {-1, 5, 6, 256, BIG, SMALL}) no("best(" + w + ")", x -> x.best(w));
        for (int w : new int[] {-1, 2, 3, 256, BIG, SMALL}) no("most(" + w + ")", x -> x.most(w));
        for (int w : new int[] {-1, 2, 3, 4, 9, 13, 14, 32, 33, 256 + 12, BIG, SMALL}) no("put(3, " + w + ")", x -> x.put(3, w));
        int[] sets = {0, 1, 512, 8, 9, 11, 35, 1 << 10, 3 + (1 << 10), 3 + (1 << 16), 3 | 1 << 31, -1, 1023, BIG, SMALL};
        for (int s : sets) for (int w : new int[] {0, 10, 11, 12}) no("put(" + s + ", " + w + ")", x -> x.put(s, w));
        for (int q : new int[] {-1, 0, 2, 4, 5, 6, 33, 35, BIG, SMALL}) {
            refused("worth(" + q + ", 0)", Twins::rich, -100000, x -> x.worth(q, 0));
            refused("worth(" + q + ", 1)", Twins::rich, -100000, x -> x.worth(q, 1));
        }
        for (int q : new int[] {-1, 1, 3, 4, 5, 10, 32, 34, BIG, SMALL}) {
            refused("worth(" + q + ", 2)", Twins::rich, -100000, x -> x.worth(q, 2));
            refused("worth(" + q + ", 3)", Twins::rich, -100000, x -> x.worth(q, 3));
        }
        for (int w : new int[] {-1, 4, 5, 256, BIG, SMALL}) {
            refused("worth(1, " + w + ")", Twins::rich, -100000, x -> x.worth(1, w));
            refused("worth(2, " + w + ")", Twins::rich, -100000, x -> x.worth(2, w));
        }
    }

    private static void comparisons() {
        for (int w : new int[] {-1, 3, 4, 256, BIG, SMALL}) no("wasWet(" + w + ")", x -> x.wasWet(w));
        for (int w : new int[] {-1, 2, 3, 256, BIG, SMALL}) no("howQuick(" + w + ")", x -> x.howQuick(w));
        for (int w = 0; w < 3; w++) {
            int what = w;
            refused("wasWet(" + w + ") of no things", Twins::noThings, NO, x -> x.wasWet(what));
            refused("wasWet(" + w + ") of no bytes", Twins::noTape, NO, x -> x.wasWet(what));
            emptied("wasWet(" + w + ") of what never was", Twins::full, w == 0 ? 0 : -2, x -> x.wasWet(what));
        }
        for (int w = 0; w < 2; w++) {
            int what = w;
            refused("howQuick(" + w + ") of no things", Twins::noThings, NO, x -> x.howQuick(what));
            refused("howQuick(" + w + ") of no bytes", Twins::noTape, NO, x -> x.howQuick(what));
            emptied("howQuick(" + w + ") of what never was", Twins::full, w == 0 ? 0 : -2, x -> x.howQuick(what));
        }
    }

    private static void overDraws() {
        int worst = -1000000000;
        for (int n : new int[] {0, 4, -1, 10, 257, BIG, SMALL}) {
            for (int w = 0; w < 2; w++) {
                int what = w;
                no("odds(" + n + ", 1, " + w + ")", x -> x.odds(n, 1, what));
            }
            refused("should(" + n + ", 100)", Twins::rich, worst, x -> x.should(n, 100));
        }
        for (int s : new int[] {-1, 11, 256, BIG, SMALL}) no("odds(1, " + s + ", 0)", x -> x.odds(1, s, 0));
        for (int w : new int[] {-1, 2, 256, BIG, SMALL}) no("odds(1, 1, " + w + ")", x -> x.odds(1, 1, w));
        for (int p : new int[] {-1, 10000, 65536, BIG, SMALL}) refused("should(1, " + p + ")", Twins::rich, worst, x -> x.should(1, p));
        for (int n = 1; n <= 3; n++) {
            int ticks = n;
            refused("odds(" + n + ", 0, 0) without a pull", Twins::noPull, NO, x -> x.odds(ticks, 0, 0));
            refused("odds(" + n + ", 0, 1) without a pull", Twins::noPull, NO, x -> x.odds(ticks, 0, 1));
            refused("should(" + n + ", 1) without a pull", Twins::noPull, worst, x -> x.should(ticks, 1));
        }
    }

    private static void practiceAndSeed() {
        for (int s : new int[] {-1, 11, 256, BIG, SMALL}) no("practice(" + s + ", 5, 2)", x -> x.practice(s, 5, 2));
        for (int t : new int[] {-1, 10, 256, BIG, SMALL}) no("practice(5, " + t + ", 2)", x -> x.practice(5, t, 2));
        for (int o : new int[] {-1, 0, 1, 10000, 65536, BIG, SMALL}) no("practice(5, 5, " + o + ")", x -> x.practice(5, 5, o));
        for (int s : new int[] {-1, 65536, 65537, -65536, 1 << 17, BIG, SMALL}) noSuch("seed(" + s + ")", x -> Twins.b(x.seed(s)));
    }

    private static void kept() {
        refused("undo() of what was not kept", Twins::noPull, 0, x -> Twins.b(x.undo()));
        refused("undo() of what was not kept", Twins::noThings, 0, x -> Twins.b(x.undo()));
    }

    private static void checks() {
        for (int n : new int[] {-1, 6, 10, 11, 20, 261, BIG, SMALL, 1 << 30, (1 << 30) + 1}) refused("check(" + n + ") of 20 bytes", Twins::rich, -2, x -> x.check(n));
        for (int n : new int[] {-1, 11, 12, 55, 1 << 30, BIG, SMALL}) refused("check(" + n + ") of 220 bytes", Twins::full, -2, x -> x.check(n));
        for (int n : new int[] {1, 5, 10, 11}) refused("check(" + n + ") of no bytes", Twins::noTape, -2, x -> x.check(n));
        for (int n = 0; n < 6; n++) {
            int many = n;
            emptied("check(" + n + ")", Twins::rich, NO, x -> x.check(many));
        }
        for (int n = 6; n < 11; n++) {
            int many = n;
            emptied("check(" + n + ")", Twins::full, 5, x -> x.check(many));
        }
    }

    /** TRIED, and all that is only asked: nothing is changed. */
    private static void onlyTold() {
        for (int w : new int[] {0, 3, 8, 10, 24, 39, 40, 51, 69}) {
            ask("still(" + w + ")", x -> x.still(w));
            ask("tried(" + w + ")", x -> x.tried(w));
        }
        ask("pace()", ClothPull::pace);
        for (int w = 0; w < 5; w++) {
            int what = w;
            ask("best(" + w + ")", x -> x.best(what));
        }
        for (int w : new int[] {0, 1, 2, 9, 10, 11}) ask("put(519, " + w + ")", x -> x.put(519, w));
        for (int w = 0; w < 2; w++) {
            int what = w;
            ask("most(" + w + ")", x -> x.most(what));
            ask("worth(1, " + w + ")", x -> x.worth(1, what));
            ask("worth(3, " + w + ")", x -> x.worth(3, what));
            ask("worth(2, 2 + " + w + ")", x -> x.worth(2, 2 + what));
            ask("odds(3, 1, " + w + ")", x -> x.odds(3, 1, what));
        }
        ask("should(3, 9999)", x -> x.should(3, 9999));
        ask("practice(10, 9, 9999)", x -> x.practice(10, 9, 9999));
        ask("thingIs(1, 1)", x -> x.thingIs(1, 1));
        ask("count(7)", x -> x.count(7));
    }

    private static void ask(String name, Twins.Call call) {
        ClothPull x = Twins.rich();
        due.is(name + " is answered", call.on(x) == -1000000000 || call.on(x) == -100000, false);
        due.is(name + " is answered twice alike", call.on(x), call.on(x));
        Twins.alike(due, name, x, Twins.rich());
    }

    /** Behind refused calls the dearest answers are as they were, too. */
    private static void theBestIsKept() {
        ClothPull x = Twins.rich();
        int[] best = bestOf(x);
        x.table(9, 0);
        x.cloth(91);
        x.thing(1, 1, 90, 1, 1, 1);
        x.more(1, 10, 1, 1);
        x.away(3);
        x.pull(21);
        x.law(21);
        x.put(8, 12);
        x.seed(65536);
        Due.law(x, "a1(t=t");
        Due.pull(x, "41");
        int[] then = bestOf(x);
        for (int w = 0; w < 5; w++) due.is("best(" + w + ") behind refused calls", then[w], best[w]);
        Twins.alike(due, "many refused calls", x, Twins.noTape());
    }

    private static int[] bestOf(ClothPull x) {
        int[] best = new int[5];
        for (int w = 0; w < 5; w++) best[w] = x.best(w);
        return best;
    }
}
