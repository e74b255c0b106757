import java.util.Map;

/** The bounds of what is searched over evenings: paces, the best pull, rows, sets, worths, what fits, draws, practice. */
public final class SearchBoundsTest {
    private static final Due due = new Due();

    public static void main(String[] args) {
        leastPaces();
        paceTicks();
        bestOfAll();
        bestTicks();
        bestTicksOfQ();
        bestOfOtherTables();
        bestOfLikeOnes();
        rowsOfMany();
        rowsOfLikeOnes();
        rowsAreLaid();
        sets();
        setsTogether();
        ironed();
        dried();
        wetOnes();
        wetPlaces();
        quickOnes();
        quickTicks();
        oddsOfOne();
        oddsOfMore();
        oddsThenStill();
        oddsOfStanding();
        shouldOne();
        practice();
        due.end();
    }

    private static ClothPull with(int length, int folds, String law, String pull) {
        ClothPull x = new ClothPull();
        x.table(length, folds);
        due.is("law " + law, Due.law(x, law) > 0, true);
        if (!pull.isEmpty()) due.is("pull " + pull, Due.pull(x, pull) > 0, true);
        return x;
    }

    private static void leastPaces() {
        for (int least = 1; least <= 42; least++) {
            ClothPull x = with(100, 0, "a1(p<" + least + ")", "");
            x.thing(0, 0, 0, 1, 1, 1);
            due.is("it falls by all below " + least, x.pace(), least <= 40 ? least : -2);
            Due.law(x, "a1(!p=" + least + ")");
            due.is("it falls by all but " + least, x.pace(), least <= 40 ? least : -2);
        }
        ClothPull x = with(100, 0, "a1(p=1)", "");
        x.thing(9, 0, 50, 1, 1, 1);
        due.is("by 2, if not by 1", x.pace(), 2);
        x.thing(0, 1, 50, 1, 1, 1);
        Due.law(x, "a1(i=9&p<7);a1(i=0&p=7)");
        due.is("by which all stand", x.pace(), 8);
        Due.law(x, "a1(i=9)");
        due.is("all but one is not all", x.pace(), -2);
        due.is("no things", new ClothPull().pace(), 1);
        // One that would go over: it rests where the cloth leaves it at once.
        for (int place = 1; place <= 40; place++) {
            x = with(41, 0, "a40(t=t);s40(t=t);b999(t=t)", "");
            x.thing(0, 0, place, 1, 1, 1);
            due.is("from " + place + " of 41", x.pace(), 41 - place);
        }
        x = with(41, 0, "a40(t=t);s40(t=t);b999(t=t)", "");
        x.thing(0, 0, 0, 1, 1, 1);
        due.is("from 0 of 41 by none", x.pace(), -2);
        // It goes its inches and does not come over: the least pace by which it stands, not the most.
        x.cloth(40);
        due.is("from 0 of 40 at once", x.pace(), 40);
        x.cloth(0);
        due.is("without a cloth", x.pace(), 1);
        // The pull of the table, slips and X do not count.
        x = with(41, 0, "h40(t=t);a1(p=1)", "40");
        x.thing(0, 0, 5, 1, 1, 1);
        due.is("without slips", x.pace(), 2);
    }

    private static void paceTicks() {
        // At the edge it falls in the tick told, if cloth is there yet.
        for (int t = 0; t < 62; t++) {
            ClothPull x = with(200, 0, "a1(t=" + t + ")", "");
            x.thing(0, 0, 0, 1, 1, 1);
            // By a pace of n the end is above 0 behind tick t, if 200 is above n (t + 1); 60 ticks at most.
            int least = 1;
            while (t < 60 && least <= 40 && 200 > least * (t + 1)) least++;
            due.is("falls in tick " + t, x.pace(), least <= 40 ? least : -2);
        }
        for (int end = 58; end <= 63; end++) {
            for (int t = 58; t <= 61; t++) {
                ClothPull x = with(200, 0, "a1(t=" + t + ")", "");
                x.cloth(end);
                x.thing(0, 0, 0, 1, 1, 1);
                due.is("an end of " + end + ", tick " + t, x.pace(), t < 60 && end > t + 1 ? 2 : 1);
            }
        }
    }

    private static int[] best(ClothPull x) {
        int[] best = new int[5];
        for (int w = 0; w < 5; w++) best[w] = x.best(w);
        due.is("best(5)", x.best(5), -1);
        due.is("best(-1)", x.best(-1), -1);
        return best;
    }

    private static void best(String name, ClothPull x, int... wanted) {
        int[] got = best(x);
        for (int w = 0; w < 5; w++) due.is(name + ", best " + w, got[w], wanted[w]);
    }

    private static void bestOfAll() {
        int[] paces = {0, 1, 2, 6, 11, 12, 13};
        for (int p : paces) {
            for (int q : paces) {
                if (p == q) continue;
                for (int k = 1; k <= 7; k++) {
                    ClothPull x = with(200, 0, "a1(!(t<" + k + "&p=" + p + "|t>" + (k - 1) + "&p=" + q + "))", "");
                    x.thing(0, 0, 10, 1, 1, 1);
                    boolean there = p > 0 && p < 13 && q > 0 && q < 13 && k < 7;
                    // By a least pace, of which the first does the harm: none stands then.
                    best("only " + p + " for " + k + ", then " + q, x, there ? new int[] {p, q, k, 1, 0} : new int[] {1, 1, 1, 0, 0});
                }
            }
        }
        for (int p = 1; p <= 12; p++) {
            ClothPull x = with(200, 0, "a1(!p=" + p + ")", "");
            x.thing(0, 0, 10, 1, 1, 1);
            best("only " + p, x, p, p, 1, 1, 0);
        }
        best("no things", with(200, 0, "a1(t=t)", ""), 1, 1, 1, 0, 0);
        ClothPull plain = new ClothPull();
        Due.law(plain, "a1(t=t)");
        best("a new one with a law", plain, 1, 1, 1, 0, 0);
        best("a new one", new ClothPull(), 1, 1, 1, 0, 0);
    }

    private static void bestTicks() {
        // It stands if it is not dragged in the tick: 60 ticks in all, so never in the 61st.
        ClothPull x = with(200, 0, "a1(t=60)", "");
        x.thing(0, 0, 0, 1, 1, 1);
        best("no 61st tick", x, 1, 1, 1, 1, 0);
        Due.law(x, "a1(t=59)");
        // 1 inch, then 3 inches in 59 ticks: 178; by 4: 199 in 50 ticks.
        best("the 60th tick", x, 1, 4, 1, 1, 0);
        Due.law(x, "a1(t=50)");
        // 1 inch, then 4: 197 behind tick 49, none left behind tick 50; the end is 0 then.
        best("the 51st tick is the last one", x, 1, 4, 1, 1, 0);
        Due.law(x, "a1(t=49)");
        // By 4 the end is 3 behind tick 49; by 5 it was 0 behind tick 40.
        best("the 50th tick", x, 1, 5, 1, 1, 0);
        // 6 times 12 are 72: of 73 inches one is left for Q.
        x = with(200, 0, "a1(t=5)", "");
        x.thing(0, 0, 0, 1, 1, 1);
        x.cloth(73);
        // 72 behind tick 5 by 12 and 12: the end is 1; so none stands there.
        best("73 inches", x, 1, 1, 1, 0, 0);
        x.cloth(72);
        best("72 inches: by six times 12, none for Q", x, 12, 1, 6, 1, 0);
        x.cloth(61);
        // 1 and five times 12 are 61.
        best("61 inches", x, 1, 12, 1, 1, 0);
        x.cloth(62);
        best("62 inches", x, 2, 12, 1, 1, 0);
        x.cloth(0);
        best("no cloth", x, 1, 1, 1, 1, 0);
    }

    /** Q is told for as many ticks as the cloth needs more: in them thing 0 slides on, behind them it rests at once. */
    private static void bestTicksOfQ() {
        for (int rest = 0; rest <= 16; rest++) {
            // Thing 1 at the edge falls, while cloth is there, by all but three times 12, then 7s.
            ClothPull x = with(200, 0, "a1(i=1&!(t<3&p=12|t>2&p=7));a5(i=0&t=0);s1(p>0);s40(t=t);b0(i=1);b999(t=t)", "");
            x.cloth(36 + rest);
            x.thing(1, 0, 0, 1, 1, 1);
            // On cloth in the first tick, by 5; on wood by 4 and 3 in the next two, then by 2, 1 as long as Q is told.
            x.thing(0, 0, 23 + rest, 1, 1, 1);
            if (rest == 0) best("no ticks for Q", x, 12, 1, 3, 2, 12);
            else if (rest == 1) best("one tick for Q", x, 12, 1, 3, 2, 14);
            else if (rest <= 12) best("one tick more, of 12, for " + rest, x, 12, 1, 4, 2, 14);
            else best("more ticks for " + rest, x, 12, 7, 3, 2, 15);
        }
    }

    /** What is asked again on another table is found again. */
    private static void bestOfOtherTables() {
        // Fold 3 of 60 lies at 30, of 62 at 31, of 66 at 33: by 1 inch in the first tick the one at 30 is jerked, or not.
        ClothPull x = with(60, 8, "j1(t=0);b0(t=t)", "");
        for (int l : new int[] {60, 62, 66, 60, 61}) {
            x.table(l, 8);
            x.cloth(60);
            x.thing(0, 0, 30, 1, 1, 1);
            int at = 3 * l / 6;
            best("a fold at " + at, x, 1, 1, 1, at == 30 ? 0 : 1, 0);
        }
        // All that is told of all ten things is other than it was.
        ClothPull y = with(60, 0, "a1(k=1)", "");
        for (int k = 0; k < 3; k++) {
            for (int i = 0; i < 10; i++) {
                y.thing(i, k, 5 * i + k, 1 + k, 1 + k, 1 + k);
                y.more(i, k, k, k);
            }
            due.is("all ten are of another kind, " + k, y.best(3), k == 1 ? 0 : 10);
        }
        for (int f : new int[] {8, 0, 8, 4, 12}) {
            x.table(60, f);
            x.thing(0, 0, 30, 1, 1, 1);
            best("folds " + f, x, 1, 1, 1, (f & 8) == 8 ? 0 : 1, 0);
        }
    }

    private static void bestOfLikeOnes() {
        // Most standing counts ahead of fewest inches: one stands by 2 alone (both go), all fall by others.
        ClothPull x = with(60, 0, "a1(p=2&t=0);a1(!p=2);b99(p=2);b99(p=0)", "");
        x.thing(0, 0, 30, 1, 1, 1);
        int[] got = best(x);
        due.is("standing counts first", got[3], 1);
        due.is("by a P of 2", got[0], 2);
        due.is("by a Q of 2", got[1], 2);
        due.is("for all ticks", got[2], 1);
        due.is("though it goes", got[4] > 0, true);
        // Fewest inches count ahead of least P: by 1 it goes, by 3 it does not.
        x = with(60, 0, "a1(p<3&p>0);b99(t=t)", "");
        x.thing(0, 0, 30, 1, 1, 1);
        best("fewest inches", x, 3, 3, 1, 1, 0);
        // The inches of all together.
        x = with(60, 0, "a3(i=0&p=1);a1(i=0);a1(i=1&p=1);a3(i=1);b99(t=t);s40(t=t)", "");
        x.cloth(60);
        x.thing(0, 0, 58, 1, 1, 1);
        x.thing(1, 0, 57, 1, 1, 1);
        got = best(x);
        due.is("both stand", got[3], 2);
        int least = Integer.MAX_VALUE;
        for (int p = 1; p <= 12; p++) {
            for (int q = 1; q <= 12; q++) {
                for (int k = 1; k <= 6; k++) {
                    ClothPull y = with(60, 0, "a3(i=0&p=1);a1(i=0);a1(i=1&p=1);a3(i=1);b99(t=t);s40(t=t)", pullOf(60, p, q, k));
                    y.thing(0, 0, 58, 1, 1, 1);
                    y.thing(1, 0, 57, 1, 1, 1);
                    if (y.still(0) == 2 && y.still(1) < least) {
                        least = y.still(1);
                        due.is("one after the other", got[0] * 10000 + got[1] * 100 + got[2] >= p * 10000 + q * 100 + k, true);
                    }
                }
            }
        }
        due.is("the least of all", got[4], least);
    }

    /** P for K ticks, then Q for as many as a cloth of so many inches needs more; the text of it, if it is one. */
    private static String pullOf(int end, int p, int q, int k) {
        StringBuilder s = new StringBuilder().append(p);
        if (k > 1) s.append('*').append(k);
        int more = Math.min(60 - k, Math.max(0, (end - p * k + q - 1) / q));
        for (; more > 0; more -= 9) {
            s.append(',').append(q);
            if (more > 1) s.append('*').append(Math.min(more, 9));
        }
        return s.toString();
    }

    private static int[] permutation(int n, int number) {
        int[] row = new int[n];
        boolean[] used = new boolean[n];
        int rest = number;
        int block = 1;
        for (int i = 2; i < n; i++) block *= i;
        for (int k = 0; k < n; k++) {
            int skip = rest / block;
            rest %= block;
            if (n - 1 - k > 0) block /= n - 1 - k;
            for (int i = 0; i < n; i++) {
                if (used[i]) continue;
                if (skip == 0) {
                    row[k] = i;
                    used[i] = true;
                    break;
                }
                skip--;
            }
        }
        return row;
    }

    /** For each row of 2, 3, 4, 5 things a law by which all stand in that row alone. */
    private static void rowsOfMany() {
        int[] many = {0, 0, 2, 6, 24, 120};
        for (int n = 2; n <= 5; n++) {
            for (int number = 0; number < many[n]; number++) {
                int[] row = permutation(n, number);
                // Of thing 2 i + 1 the place is 7 times that number; it falls but at the place of the one in the row.
                StringBuilder law = new StringBuilder("a1(!(");
                for (int k = 0; k < n; k++) law.append(k > 0 ? "|" : "").append("i=").append(2 * k + 1).append("&x=").append(7 * (2 * row[k] + 1));
                ClothPull x = with(100, 0, law.append("))").toString(), "5");
                int set = 0;
                for (int k = 0; k < n; k++) {
                    x.thing(2 * k + 1, 0, 7 * (2 * k + 1), 1, 1, 1);
                    set |= 1 << 2 * k + 1;
                }
                String name = "row " + number + " of " + n;
                due.is(name + " stands", x.put(set, 10), n);
                due.is(name + " goes no inch", x.put(set, 11), 0);
                for (int k = 0; k < n; k++) {
                    due.is(name + ", thing " + (2 * k + 1), x.put(set, 2 * k + 1), 2 * row[k] + 1);
                    due.is(name + ", no thing " + 2 * k, x.put(set, 2 * k), -1);
                    due.is(name + ", nothing is changed", x.thingIs(2 * k + 1, 1), 7 * (2 * k + 1));
                }
                due.is(name + ", 13", x.put(set, 13), -1);
                due.is(name + " is so", x.put(set, 12), n);
                for (int k = 0; k < n; k++) due.is(name + ", then", x.thingIs(2 * k + 1, 1), 7 * (2 * row[k] + 1));
                due.is(name + " stands then", x.still(0), n);
            }
        }
    }

    private static void rowsOfLikeOnes() {
        // All rows are alike: the least one, none changed.
        for (int n = 2; n <= 6; n++) {
            ClothPull x = with(100, 0, "a1(t=t);b99(t=t)", "5");
            for (int i = 0; i < n; i++) x.thing(9 - i, 0, 50 + i, 1, 1, 1);
            int set = 1023 & ~((1 << 10 - n) - 1);
            due.is("alike, of " + n, x.put(set, 10), n < 6 ? n : -1);
            for (int i = 0; i < n; i++) due.is("alike, thing " + (9 - i), x.put(set, 9 - i), n < 6 ? 9 - i : -1);
            due.is("alike, 12", x.put(set, 12), n < 6 ? n : -1);
            for (int i = 0; i < n; i++) due.is("alike, as it was", x.thingIs(9 - i, 1), 50 + i);
        }
        ClothPull x = with(100, 0, "a1(t=t);b99(t=t)", "5");
        x.thing(0, 0, 50, 1, 1, 1);
        due.is("one alone", x.put(1, 10), -1);
        x.thing(1, 0, 50, 1, 1, 1);
        due.is("two at one place", x.put(3, 0), 0);
        due.is("two at one place", x.put(3, 1), 1);
        // Fewest inches: the heavy dragged one comes to the wood.
        x = with(100, 0, "a9(k=1);a1(t=t);s40(t=t);b99(t=t)", "9,40");
        x.cloth(60);
        x.thing(0, 1, 40, 1, 1, 1);
        x.thing(1, 0, 90, 1, 1, 1);
        due.is("both stand as they are", x.still(0), 2);
        due.is("it goes 9", x.still(1), 9);
        due.is("changed, fewest inches", x.put(3, 11), 1);
        due.is("changed, thing 0", x.put(3, 0), 1);
        due.is("changed, thing 1", x.put(3, 1), 0);
        // The most that stand count ahead of the fewest inches.
        Due.law(x, "a9(k=1);a1(t=t);s40(t=t);b99(k=1);b0(t=t)");
        due.is("both stand, though one goes 9", x.put(3, 10) * 100 + x.put(3, 11), 209);
        // Things that are not among them stand, or do not, too; their inches count.
        x.thing(2, 1, 30, 1, 1, 1);
        due.is("a third one stands", x.put(3, 10), 3);
        due.is("its inches, too", x.put(3, 11), 18);
        x.thing(2, 0, 30, 1, 1, 1);
        due.is("a third one falls", x.put(3, 10), 2);
        due.is("without a pull all stand", noPull().put(3, 10), 2);
        due.is("without a pull, the least row", noPull().put(3, 0), 0);
    }

    private static ClothPull noPull() {
        return Twins.noPull();
    }

    private static void rowsAreLaid() {
        ClothPull x = Twins.rich();
        Map<String, Integer> was = Twins.state(x);
        int stand = x.put(0b10111, 10);
        int inches = x.put(0b10111, 11);
        int[] row = new int[5];
        for (int i : new int[] {0, 1, 2, 4}) row[i] = x.put(0b10111, i);
        due.is("nothing is changed", Twins.differ(was, Twins.state(x)), "");
        due.is("12 as 10", x.put(0b10111, 12), stand);
        for (int i : new int[] {0, 1, 2, 4}) {
            due.is("place of " + i, x.thingIs(i, 1), was.get("thingIs(" + row[i] + ", 1)"));
            for (int w = 0; w < 8; w++) if (w != 1) due.is("all else of " + i + " stays", x.thingIs(i, w), was.get("thingIs(" + i + ", " + w + ")"));
        }
        due.is("9 is not among them", x.thingIs(9, 1), was.get("thingIs(9, 1)"));
        due.is("they stand", x.still(0), stand);
        due.is("they go", x.still(1), inches);
        due.is("X stays", x.count(7), 4242);
        due.is("the end stays", x.count(1), 78);
    }

    /** The dry ones alone stand: they are the most. */
    private static void sets() {
        for (int set = 0; set < 1024; set += set < 32 || set > 991 ? 1 : 13) {
            ClothPull x = with(100, 0, "a1(w=1)", "5");
            for (int i = 0; i < 10; i++) {
                x.thing(i, 0, 5 + 9 * i, 1, 1, 1);
                x.more(i, set >> i & 1 ^ 1, 0, 0);
            }
            due.is("how many of " + set, x.most(0), Integer.bitCount(set));
            due.is("which of " + set, x.most(1), set);
            due.is("nothing is changed", x.count(3), 1023);
        }
        // Of told things alone.
        for (int set = 0; set < 1024; set += 31) {
            ClothPull x = with(100, 0, "a1(w=1)", "5");
            for (int i = 0; i < 10; i++) if ((set >> i & 1) == 1) x.thing(i, 0, 5 + 9 * i, 1, 1, 1);
            due.is("of " + set + " all", x.most(1), set);
        }
        due.is("most(2)", new ClothPull().most(2), -1);
        due.is("most(-1)", new ClothPull().most(-1), -1);
        due.is("without a pull all stand", noPull().most(1), 3);
    }

    private static void setsTogether() {
        // Each stands alone; of two neighbours the one behind pushes the one in front over.
        ClothPull x = with(60, 0, "a4(k=1);b999(t=t)", "4,40");
        x.cloth(40);
        x.thing(0, 0, 0, 8, 1, 1);
        x.thing(1, 1, 10, 8, 1, 99);
        due.is("one goes over", x.still(5), 1);
        due.is("alone both stand", x.most(0), 1);
        due.is("the least bits", x.most(1), 1);
        x.away(1);
        x.thing(3, 1, 10, 8, 1, 99);
        due.is("the least bits of 0 and 3", x.most(1), 1);
        x.away(0);
        x.thing(9, 0, 0, 8, 1, 1);
        due.is("the least bits of 3 and 9", x.most(1), 8);
        x.thing(5, 0, 50, 1, 1, 1);
        due.is("two of three", x.most(0), 2);
        due.is("the least bits of 3, 5 and 9", x.most(1), 8 + 32);
        due.is("nothing is changed", x.count(3), 512 + 32 + 8);
        // More of them count ahead of lesser bits.
        x = with(60, 0, "a1(i=0)", "4");
        x.thing(0, 0, 20, 1, 1, 1);
        x.thing(8, 0, 22, 1, 1, 1);
        x.thing(9, 0, 24, 1, 1, 1);
        due.is("the two with higher bits", x.most(1), 768);
    }

    private static void ironed() {
        for (int q = 0; q < 6; q++) {
            for (int folds = 0; folds < 64; folds += 1 + q) {
                ClothPull x = with(60, folds, "j3(t=t);b2(t=t)", "1");
                for (int i = 0; i < 6; i++) x.thing(i, 0, 10 * i, 1, 1, 1);
                boolean there = (folds >> q & 1) == 1;
                due.is("ironed at " + q + " of " + folds, x.worth(q, 0), there ? 1 : -100000);
                due.is("ironed at " + q + " of " + folds + ", inches", x.worth(q, 1), there ? 0 : -100000);
                due.is("the folds stay", x.count(2), folds);
                due.is("they fall yet", x.still(0), 6 - Integer.bitCount(folds));
            }
        }
        // It slides where it fell: more inches, not fewer.
        ClothPull x = with(60, 8, "a1(t=t);j3(t=t);b2(t=t)", "1");
        x.thing(0, 0, 30, 1, 1, 1);
        due.is("one more stands", x.worth(3, 0), 1);
        due.is("by an inch more", x.worth(3, 1), -1);
        x = with(60, 0, "a1(t=t)", "1");
        for (int q : new int[] {-1, 6, 7, 32, 64}) {
            due.is("no such fold " + q, x.worth(q, 0), -100000);
            due.is("no such fold " + q, x.worth(q, 1), -100000);
        }
        x = with(60, 8, "a2(t=0);j3(t=0);s40(t=t);b5(t=0);b1(t>0)", "5,5");
        x.thing(0, 0, 30, 1, 1, 1);
        x.cloth(36);
        // Folded: 5, then 4 on cloth; tilts of 5 and 1. Ironed: 2, then on wood by 2 less: it falls.
        due.is("folded it stands", x.still(0), 1);
        due.is("ironed it falls: one less", x.worth(3, 0), -1);
        due.is("without a pull nothing is won", folded().worth(3, 0) + folded().worth(3, 1), 0);
    }

    private static ClothPull folded() {
        ClothPull x = new ClothPull();
        x.table(60, 8);
        x.thing(0, 0, 30, 1, 1, 1);
        return x;
    }

    private static void dried() {
        for (int i = 0; i < 10; i++) {
            for (int wet = 0; wet <= 9; wet++) {
                ClothPull x = with(60, 0, "aw(t=t);s40(t=t);b0(i=" + i + ");b99(t=t)", "9,40");
                x.cloth(50);
                x.thing(i, 0, 40, 1, 1, 1);
                x.thing((i + 1) % 10, 0, 20, 1, 1, 1);
                x.more(i, wet, 0, 0);
                due.is("dried " + i + " of " + wet, x.worth(i, 2), wet > 0 ? 1 : -100000);
                due.is("dried " + i + " of " + wet + ", inches", x.worth(i, 3), wet > 0 ? 0 : -100000);
                due.is("it is wet yet", x.thingIs(i, 5), wet);
                due.is("the other one is dry", x.worth((i + 1) % 10, 2), -100000);
                due.is("one that is not told", x.worth((i + 5) % 10, 2), -100000);
                due.is("what 4", x.worth(i, 4), -100000);
                due.is("what -1", x.worth(i, -1), -100000);
                Due.law(x, "aw(t=t);s40(t=t);b99(t=t)");
                due.is("inches of " + wet, x.worth(i, 3), wet > 0 ? wet : -100000);
                due.is("it stood", x.worth(i, 2), wet > 0 ? 0 : -100000);
            }
        }
        // Wet it rests, dry it is dragged over.
        ClothPull x = with(60, 0, "a5(w=0);b99(t=t)", "5,40");
        x.thing(0, 0, 4, 1, 1, 1);
        x.more(0, 9, 0, 0);
        due.is("one less stands", x.worth(0, 2), -1);
        due.is("five inches more", x.worth(0, 3), -5);
    }

    /** Twos of a thing and another wet by which it rests at 20 i + 1: counted by what it was told. */
    private static void wetOnes() {
        for (int n = 1; n <= 10; n++) {
            for (int told = 0; told <= 9; told += 3) {
                ClothPull x = with(200, 0, "a1(t<0)", "5");
                int[] places = new int[10];
                for (int k = 0; k < n; k++) {
                    x.thing(10 - n + k, 0, 20 * k, 1, 1, 1);
                    x.more(10 - n + k, told, 0, 0);
                    places[k] = 20 * k;
                }
                Due.feed(x, places);
                due.is("all fit, of " + n, x.wasWet(0), 9 * n);
                due.is("the tape is empty", x.count(6), 0);
                Due.feed(x, places);
                due.is("the first thing of " + n, x.wasWet(1), 10 - n);
                Due.feed(x, places);
                due.is("its first wet, told " + told, x.wasWet(2), told == 0 ? 1 : 0);
                for (int k = 0; k < n; k++) {
                    places[k]++;
                    Due.feed(x, places);
                    due.is("one inch beside, " + k, x.wasWet(0), 0);
                    Due.feed(x, places);
                    due.is("one inch beside, " + k, x.wasWet(1), -2);
                    Due.feed(x, places);
                    due.is("one inch beside, " + k, x.wasWet(2), -2);
                    places[k]--;
                }
                due.is("nothing is changed", x.thingIs(9, 5), told);
            }
        }
        // Each two alone: it goes its wet in inches.
        for (int i = 0; i < 3; i++) {
            for (int told = 0; told <= 9; told++) {
                for (int wet = 0; wet <= 9; wet++) {
                    ClothPull x = with(200, 0, "aw(t=t);s40(t=t);b99(t=t)", "9,40");
                    x.cloth(150);
                    for (int k = 0; k < 3; k++) {
                        x.thing(3 * k, 0, 110 + 15 * k, 1, 1, 1);
                        x.more(3 * k, told, 0, 0);
                    }
                    int[] places = {110 - told, 125 - told, 140 - told};
                    places[i] += told - wet;
                    // Of the tick's end 141 and then 101 all are on wood.
                    Due.feed(x, places);
                    due.is("was " + wet + ", told " + told, x.wasWet(0), wet == told ? 0 : 1);
                    Due.feed(x, places);
                    due.is("was " + wet + ", told " + told + ": which", x.wasWet(1), wet == told ? -2 : 3 * i);
                    Due.feed(x, places);
                    due.is("was " + wet + ", told " + told + ": how", x.wasWet(2), wet == told ? -2 : wet);
                }
            }
        }
    }

    private static void wetPlaces() {
        // 255: over; the last place of the longest table; a fallen one where it lies.
        ClothPull x = with(200, 0, "aw(t=t);b99(i=0);b0(t=t)", "9");
        x.thing(0, 0, 0, 1, 1, 1);
        x.thing(1, 0, 100, 1, 1, 1);
        x.thing(2, 0, 199, 1, 1, 1);
        int[][] rows = {{0, 100, 199, 18, 1, 1}, {255, 100, 199, 9, 0, 1}, {254, 100, 199, 0, -2, -2}, {0, 100, 255, 0, -2, -2}, {0, 255, 199, 0, -2, -2}, {255, 255, 255, 0, -2, -2}};
        for (int[] r : rows) {
            for (int w = 0; w < 3; w++) {
                Due.feed(x, r[0], r[1], r[2]);
                due.is("places " + r[0] + ", " + r[1] + ", " + r[2] + ": " + w, x.wasWet(w), r[3 + w]);
            }
        }
        x.away(0);
        x.away(1);
        x.away(2);
        Due.feed(x, 0);
        due.is("no things", x.wasWet(0), -1);
        due.is("the tape stays", x.count(6), 20);
        due.is("no things, how quick", x.howQuick(0), -1);
        due.is("the tape stays", x.count(6), 20);
        for (int i = 0; i < 10; i++) x.thing(i, 0, 190 + i, 1, 1, 1);
        due.is("ten things of twenty bytes", x.wasWet(0), 0);
        due.is("none of no bytes", x.wasWet(0), -1);
        due.is("none of no bytes, how quick", x.howQuick(0), -1);
        // Without a pull all stand where they are told, by any wet.
        x = noPull();
        Due.feed(x, 70, 50);
        due.is("without a pull", x.wasWet(0), 18);
    }

    private static void quickOnes() {
        for (int pace = 0; pace <= 41; pace++) {
            // It goes 1 in the first tick by the pace alone, and rests on wood then.
            ClothPull x = with(200, 0, "a1(t=0&p=" + pace + ");s40(t=t);b99(t=t)", "");
            x.cloth(101);
            x.thing(4, 0, 60, 1, 1, 1);
            boolean there = pace > 0 && pace < 41;
            ClothPull y = with(200, 0, "a1(t=0&p=" + pace + ");b0(t=t)", "");
            y.thing(4, 0, 60, 1, 1, 1);
            Due.feed(y, 60);
            due.is("all fit by " + pace, y.howQuick(0), 40);
            Due.feed(y, 60);
            due.is("the first of all by " + pace, y.howQuick(1), 1);
            Due.feed(x, 60);
            due.is("all but " + pace, x.howQuick(0), there ? 39 : 40);
            Due.feed(x, 60);
            due.is("the first of all but " + pace, x.howQuick(1), pace == 1 ? 2 : 1);
            Due.law(x, "a9(t=0&p=" + pace + ");b0(t=t)");
            x.thing(5, 0, 59, 1, 1, 1);
            Due.feed(x, 60, 59);
            due.is("two things", x.howQuick(0), 40);
            Due.feed(x, 59, 60);
            due.is("two things the other way", x.howQuick(0), 0);
            Due.feed(x, 59, 60);
            due.is("none", x.howQuick(1), -2);
            due.is("the tape is empty", x.count(6), 0);
            due.is("no pull is told by it", x.count(4), 0);
        }
    }

    /** An even pace is told for as many ticks as the cloth needs: behind them the pace told is 0. */
    private static void quickTicks() {
        for (int pace = 11; pace <= 40; pace++) {
            for (int end = pace + 57; end <= 200; end += 1 + end % 5) {
                // It comes to wood by a speed of 10 and slides on, by 1 less in each tick of this pace, till they end.
                ClothPull x = with(200, 0, "a10(t=0&p=" + pace + ");s1(p=" + pace + ");s40(t=t);b999(t=t)", "");
                x.cloth(end);
                int place = end - pace - 1;
                x.thing(0, 0, place, 1, 1, 1);
                int ticks = (end + pace - 1) / pace;
                for (int t = 0; t < ticks && t < 10; t++) place -= 10 - t;
                String name = "an end of " + end + " by " + pace;
                for (int beside = -1; beside <= 1; beside++) {
                    Due.feed(x, place + beside);
                    due.is(name + ", beside by " + beside, x.howQuick(0), beside == 0 ? 1 : 0);
                    Due.feed(x, place + beside);
                    due.is(name + ", beside by " + beside, x.howQuick(1), beside == 0 ? pace : -2);
                }
            }
        }
        // Sixty at most: in the 60th tick it goes over if cloth is there yet, a 61st never comes.
        for (int t = 57; t <= 61; t++) {
            for (int end : new int[] {58, 59, 60, 61, 62, 120, 121, 200}) {
                ClothPull x = with(200, 0, "a1(t=" + t + ");b999(t=t)", "");
                x.cloth(end);
                x.thing(0, 0, 0, 1, 1, 1);
                int fits = t < 60 ? (end - 1) / (t + 1) : 0;
                Due.feed(x, 255);
                due.is("over in tick " + t + ", an end of " + end, x.howQuick(0), fits);
                Due.feed(x, 255);
                due.is("over in tick " + t + ", an end of " + end + ", the first", x.howQuick(1), fits > 0 ? 1 : -2);
                Due.feed(x, 0);
                due.is("not over in tick " + t + ", an end of " + end, x.howQuick(0), 40 - fits);
                Due.feed(x, 0);
                due.is("not over in tick " + t + ", an end of " + end + ", the first", x.howQuick(1), fits + 1);
            }
        }
        ClothPull x = with(200, 0, "a1(t=t)", "");
        x.cloth(0);
        x.thing(0, 0, 0, 1, 1, 1);
        Due.feed(x, 0);
        due.is("without a cloth all fit", x.howQuick(0), 40);
    }

    /** It stands by draws below 10 - least + 1: the cloth has to be at least so quick in the tick. */
    private static ClothPull drawn(int least, int tick, String pull) {
        ClothPull x = with(200, 0, "hr(t=t);b0(c<" + least + "&t=" + tick + ");a40(t=" + tick + ");b999(t=t)", pull);
        x.thing(0, 0, 120, 1, 1, 1);
        return x;
    }

    private static int divisor(int a, int b) {
        return b == 0 ? a : divisor(b, a % b);
    }

    private static void odds(String name, ClothPull x, int n, int standing, int good, int all) {
        int d = divisor(good, all);
        due.is(name + ": above the line", x.odds(n, standing, 0), good / d);
        due.is(name + ": below the line", x.odds(n, standing, 1), all / d);
    }

    private static void oddsOfOne() {
        for (int least = 0; least <= 12; least++) {
            int good = Math.max(0, Math.min(10, 11 - least));
            ClothPull x = drawn(least, 0, "10");
            odds("at least " + least, x, 1, 1, good, 10);
            odds("at least " + least + ", over two ticks", x, 2, 1, good, 10);
            odds("at least " + least + ", over three ticks", x, 3, 1, good, 10);
            odds("none, of " + least, x, 1, 0, 1, 1);
            odds("two of one, of " + least, x, 1, 2, 0, 1);
        }
    }

    private static void oddsOfMore() {
        for (int tick = 0; tick < 4; tick++) {
            for (int n = 1; n <= 3; n++) {
                ClothPull x = drawn(8, tick, "10,10,10,10");
                // Behind the first n ticks there are no slips: the cloth is as quick as 10.
                odds("tick " + tick + ", over " + n, x, n, 1, tick < n ? 3 : 1, tick < n ? 10 : 1);
            }
        }
        // It stands only if each of the first n draws is 0.
        int[] all = {1, 10, 100, 1000};
        for (int n = 1; n <= 3; n++) {
            ClothPull y = with(100, 0, "h9(!r=0);b0(c=1);a1(c=1);b999(t=t)", "10,10,10");
            y.thing(0, 0, 30, 1, 1, 1);
            odds("all of " + n + " draws 0", y, n, 1, 1, all[n]);
        }
    }

    /** Behind what is asked over draws there are no slips in what is asked without them. */
    private static void oddsThenStill() {
        ClothPull x = with(200, 0, "h5(t=t);a40(t=t);b999(t=t)", "10,10");
        x.thing(0, 0, 100, 1, 1, 1);
        for (int n = 1; n <= 3; n++) {
            due.is("over " + n, x.odds(n, 1, 0), 1);
            due.is("the end without slips", x.still(3), 180);
            due.is("the end with slips", x.tried(3), 190);
            due.is("without slips again", x.still(3), 180);
            due.is("should, over " + n, x.should(n, 1) > 0, true);
            due.is("the end without slips", x.still(3), 180);
        }
    }

    private static void oddsOfStanding() {
        // Thing i falls by draws above i: by the draw r there stand 10 - r of ten.
        ClothPull x = with(200, 0, "hr(t=t);a40(t=0);b0(i<10-c&t=0);b999(t=t);s40(t=t)", "10");
        for (int i = 0; i < 10; i++) x.thing(i, 0, 60 + 12 * i, 1, 1, 1);
        for (int s = 0; s <= 10; s++) odds("at least " + s + " of ten", x, 1, s, s == 0 ? 10 : 11 - s, 10);
        due.is("eleven", x.odds(1, 11, 0), -1);
        due.is("less than none", x.odds(1, -1, 0), -1);
        odds("no things", with(100, 0, "a1(t=t)", "5"), 3, 0, 1, 1);
        odds("one of no things", with(100, 0, "a1(t=t)", "5"), 3, 1, 0, 1);
    }

    private static void shouldOne() {
        int[] all = {1, 10, 100, 1000};
        for (int prize : new int[] {0, 1, 9998, 9999}) {
            for (int n = 1; n <= 3; n++) {
                ClothPull x = drawn(8, 0, "10,10,10");
                x.more(0, 0, 0, 999);
                due.is("a prize of " + prize + " over " + n, x.should(n, prize), all[n] / 10 * (3 * prize - 7 * 999));
                x.more(0, 0, 0, 0);
                due.is("of no worth", x.should(n, prize), all[n] / 10 * 3 * prize);
                x.away(0);
                due.is("no things: all stand", x.should(n, prize), all[n] * prize);
            }
        }
        // The prize is for all of them; the worths are of each that does not stand, fallen or over.
        ClothPull x = with(200, 0, "a40(t=0);b0(i=0&t=0);b999(t=t)", "10");
        x.thing(0, 0, 100, 1, 1, 1);
        x.more(0, 0, 0, 5);
        x.thing(1, 0, 0, 1, 1, 1);
        x.more(1, 0, 0, 70);
        x.thing(2, 0, 120, 1, 1, 1);
        x.more(2, 0, 0, 900);
        due.is("one fell, one is over, one stands", x.should(1, 9999), 10 * -75);
        x.away(0);
        due.is("one is over", x.should(1, 9999), 10 * -70);
        x.away(1);
        due.is("one stands", x.should(1, 9999), 10 * 9999);
        due.is("a prize below 0", x.should(1, -1), -1000000000);
        due.is("a prize of 10000", x.should(1, 10000), -1000000000);
        // The dearest: ten of 999 over a thousand draws.
        x = with(200, 0, "a1(t=t)", "10");
        for (int i = 0; i < 10; i++) {
            x.thing(i, 0, i, 1, 1, 1);
            x.more(i, 0, 0, 999);
        }
        due.is("the dearest", x.should(3, 9999), -9990000);
    }

    private static void practice() {
        ClothPull x = new ClothPull();
        int[][] rows = {
            // So many as one of so many are not fewer.
            {5, 5, 2, 1}, {5, 9, 2, 1}, {4, 9, 2, 0}, {10, 5, 2, 2}, {10, 5, 3, 2}, {10, 5, 4, 3}, {10, 5, 5, 3},
            {1, 9, 9, 0}, {1, 9, 10, 1}, {1, 9, 11, 1}, {1, 9, 12, 2}, {2, 5, 5, 1}, {2, 5, 4, 0}, {2, 5, 6, 1}, {2, 5, 10, 2},
            {1, 1, 999, 2}, {1, 1, 1000, 3}, {1, 1, 1001, 3}, {1, 1, 9901, 3}, {1, 1, 9999, 3}, {10, 1, 9999, 4},
            // 11764.9 is 11764, which are fewer than one of 85.
            {1, 7, 85, 6}, {1, 7, 84, 6}, {1, 7, 86, 7},
            // 819 times 1221 are 999999: one millionth fewer than a million.
            {2, 4, 1221, 6}, {2, 4, 1220, 6}, {2, 4, 1222, 7}, {5, 4, 1221, 7}, {6, 4, 407, 6}, {8, 9, 94, 41},
            {10, 0, 2, 1}, {10, 0, 9999, 1}, {5, 0, 2, 1}, {4, 0, 2, 0}, {0, 0, 2, 0}, {0, 9, 9999, 0}, {10, 9, 2, 7}};
        for (int[] r : rows) due.is("practice(" + r[0] + ", " + r[1] + ", " + r[2] + ")", x.practice(r[0], r[1], r[2]), r[3]);
        for (int s = 0; s <= 10; s++) due.is("spoilt " + s, x.practice(s, 0, 2), s < 5 ? 0 : 1);
        for (int t = 0; t <= 9; t++) due.is("tenths " + t, x.practice(10, t, 2) > 0, true);
        due.is("spoilt 11", x.practice(11, 0, 2), -1);
        due.is("spoilt -1", x.practice(-1, 0, 2), -1);
        due.is("tenths 10", x.practice(0, 10, 2), -1);
        due.is("tenths -1", x.practice(0, -1, 2), -1);
        due.is("one of 1", x.practice(0, 0, 1), -1);
        due.is("one of 2", x.practice(0, 0, 2), 0);
        due.is("one of 9999", x.practice(0, 0, 9999), 0);
        due.is("one of 10000", x.practice(0, 0, 10000), -1);
    }
}
