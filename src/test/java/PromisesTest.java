/** For each promise of the document: ordinary inputs, its edges, wrong inputs; what is due was reckoned by hand. */
public final class PromisesTest {
    private static final int BIG = Integer.MAX_VALUE;
    private static final int SMALL = Integer.MIN_VALUE;
    private static final Due due = new Due();

    public static void main(String[] args) {
        aNewObject();
        table();
        cloth();
        thing();
        moreAndAway();
        feed();
        pull();
        lawFaults();
        lawValues();
        lawRefusals();
        lawBounds();
        tried();
        stillSlides();
        stillRocksFallsSpills();
        stillTouches();
        stillTen();
        stillFolds();
        done();
        thingIs();
        pace();
        best();
        put();
        most();
        worth();
        wasWet();
        howQuick();
        odds();
        should();
        practice();
        seed();
        keepAndUndo();
        check();
        count();
        due.end();
    }

    private static ClothPull with(int length, int folds, String law, String pull) {
        ClothPull x = new ClothPull();
        x.table(length, folds);
        due.is("law " + law, Due.law(x, law) > 0, true);
        due.is("pull " + pull, Due.pull(x, pull) > 0, true);
        return x;
    }

    /** A tin at 30 of a 60 inch cloth that is pulled by 10: cloth to 24 (6 inches), then wood to 23. */
    private static ClothPull plain(int height, String bears, String spills) {
        ClothPull x = with(60, 0, "a1(t=t);s2(t=t);b" + bears + "(t=t);z" + spills + "(t=t)", "10*6");
        x.thing(0, 0, 30, 10, height, 10);
        return x;
    }

    private static void aNewObject() {
        ClothPull x = new ClothPull();
        int[] wanted = {100, 100, 0, 0, 0, 0, 0, 1};
        for (int i = 0; i < 8; i++) due.is("new count(" + i + ")", x.count(i), wanted[i]);
        due.is("new count(100)", x.count(100), -1);
        due.is("new undo", x.undo(), false);
        due.is("new still(0)", x.still(0), 0);
        due.is("new still(2)", x.still(2), 0);
        due.is("new done", x.done(), -1);
        due.is("NONE", ClothPull.NONE, -1);
    }

    private static void table() {
        ClothPull x = new ClothPull();
        x.thing(0, 0, 5, 5, 5, 5);
        for (int l : new int[] {9, 201, -1, 0, BIG, SMALL}) due.is("table " + l, x.table(l, 0), false);
        for (int f : new int[] {-1, 64, BIG, SMALL}) due.is("table folds " + f, x.table(50, f), false);
        due.is("refused tables change nothing", x.count(0) + 1000 * x.count(3), 1100);
        due.is("table 10", x.table(10, 63), true);
        due.is("its things are gone", x.count(3), 0);
        due.is("its end", x.count(1), 10);
        due.is("its folds", x.count(2), 63);
        x.cloth(3);
        due.is("table 200", x.table(200, 0), true);
        due.is("its end", x.count(1), 200);
        due.is("its length", x.count(0), 200);
        due.is("its folds", x.count(2), 0);
    }

    private static void cloth() {
        ClothPull x = new ClothPull();
        x.table(50, 0);
        for (int e : new int[] {-1, 51, BIG, SMALL}) due.is("cloth " + e, x.cloth(e), false);
        due.is("end", x.count(1), 50);
        due.is("cloth 0", x.cloth(0), true);
        due.is("end", x.count(1), 0);
        due.is("cloth 50", x.cloth(50), true);
        due.is("end", x.count(1), 50);
    }

    private static void thing() {
        ClothPull x = new ClothPull();
        x.table(50, 0);
        int[] low = {0, 0, 0, 1, 1, 1};
        int[] high = {9, 3, 49, 40, 60, 99};
        for (int k = 0; k < 6; k++) {
            for (int bad : new int[] {low[k] - 1, high[k] + 1, BIG, SMALL}) {
                int[] v = low.clone();
                v[k] = bad;
                due.is("thing with " + k + " " + bad, x.thing(v[0], v[1], v[2], v[3], v[4], v[5]), false);
            }
        }
        due.is("no thing", x.count(3), 0);
        due.is("least", x.thing(0, 0, 0, 1, 1, 1), true);
        due.is("most", x.thing(9, 3, 49, 40, 60, 99), true);
        due.is("things", x.count(3), 513);
        x.more(9, 1, 2, 3);
        due.is("again", x.thing(9, 2, 48, 39, 59, 98), true);
        int[] wanted = {2, 48, 39, 59, 98, 0, 0, 0};
        for (int k = 0; k < 8; k++) due.is("thing 9, " + k, x.thingIs(9, k), wanted[k]);
    }

    private static void moreAndAway() {
        ClothPull x = new ClothPull();
        due.is("more untold", x.more(3, 0, 0, 0), false);
        due.is("away untold", x.away(3), false);
        x.thing(3, 0, 5, 5, 5, 5);
        for (int bad : new int[] {-1, 10, BIG, SMALL}) {
            due.is("more wet", x.more(3, bad, 0, 0), false);
            due.is("more filled", x.more(3, 0, bad, 0), false);
            due.is("more of", x.more(bad, 0, 0, 0), false);
            due.is("away of", x.away(bad), false);
        }
        due.is("more worth", x.more(3, 0, 0, 1000), false);
        due.is("more worth", x.more(3, 0, 0, -1), false);
        due.is("more", x.more(3, 9, 8, 999), true);
        due.is("wet", x.thingIs(3, 5), 9);
        due.is("filled", x.thingIs(3, 6), 8);
        due.is("worth", x.thingIs(3, 7), 999);
        due.is("away", x.away(3), true);
        due.is("away twice", x.away(3), false);
        due.is("gone", x.thingIs(3, 0), -1);
        due.is("more of one that is gone", x.more(3, 0, 0, 0), false);
        due.is("no things", x.count(3), 0);
        due.is("more of 32 more", x.more(35, 0, 0, 0), false);
    }

    private static void feed() {
        ClothPull x = new ClothPull();
        for (int i = 1; i <= 11; i++) due.is("feed", x.feed(1, 2, 3, 4, 5), 20 * i);
        due.is("feed too much", x.feed(1, 2, 3, 4, 5), -1);
        due.is("the tape stays", x.count(6), 220);
        x.check(0);
        due.is("empty", x.count(6), 0);
        x.feed(0x352a322c, 0x37000000, 0, 0, 0);
        due.is("the highest first: 5*2,7", x.pull(5), 3);
        due.is("empty then", x.count(6), 0);
    }

    private static void pull() {
        ClothPull x = new ClothPull();
        due.is("pull 0", x.pull(0), -1);
        x.feed(0, 0, 0, 0, 0);
        for (int n : new int[] {0, -1, 121, 21, BIG, SMALL}) due.is("pull " + n, x.pull(n), -1);
        due.is("the tape stays", x.count(6), 20);
        Due.feed(x, "1".repeat(180));
        due.is("pull 121 of 200", x.pull(121), -1);
        due.is("the tape stays", x.count(6), 200);
        due.is("5,7*3,40", Due.pull(x, "5,7*3,40"), 5);
        int[] paces = {5, 7, 7, 7, 40, -1};
        for (int t = 0; t < 6; t++) due.is("pace " + t, x.count(100 + t), paces[t]);
        String[] texts = {"41", "x", "5x", "5,", "5*", "5*1", "5*a", "5*22", "123", "05", "411", "99x", "5,41*", "4 ", "5;5", ",5", "5,,5", "40*9", "00*9"};
        int[] answers = {-3000, -1000, -1001, -1002, -1002, -1002, -1002, -1003, -1002, 1, -3000, -3000, -3002, -1001, -1001, -1000, -1002, 9, 9};
        for (int i = 0; i < texts.length; i++) due.is("pull " + texts[i], Due.pull(x, texts[i]), answers[i]);
        due.is("a fault leaves the one before", Due.pull(x, "x") + 10000 * x.count(4), 90000 - 1000);
        String twenty = "1,".repeat(20);
        due.is("20 steps", Due.pull(x, twenty.substring(0, 39)), 20);
        due.is("a 20th comma", Due.pull(x, twenty), -1040);
        due.is("a 21st step", Due.pull(x, twenty + "1"), -4040);
        due.is("a 21st step above 40", Due.pull(x, twenty + "99"), -4040);
        due.is("no 21st step", Due.pull(x, twenty + "x"), -1040);
        String fiftyfour = "1*9,".repeat(6);
        due.is("60 ticks", Due.pull(x, fiftyfour + "1*6"), 60);
        due.is("61 ticks", Due.pull(x, fiftyfour + "1*7"), -6024);
        due.is("61 ticks, the last one", Due.pull(x, fiftyfour + "1*6,1"), -6028);
        due.is("61 ticks, and what can't stand behind them", Due.pull(x, fiftyfour + "1*7x"), -6024);
        due.is("61 ticks above 40", Due.pull(x, fiftyfour + "1*6,41"), -3028);
        due.is("a byte of 128 and more", Due.pull(x, "5" + (char) 0xb5), -1001);
        due.is("120 bytes", Due.pull(x, "5".repeat(120)), -3000);
        Due.feed(x, "5,6,7");
        due.is("the first byte alone", x.pull(1), 1);
        due.is("empty then", x.count(6), 0);
    }

    private static void lawFaults() {
        ClothPull x = new ClothPull();
        due.is("law 0", x.law(0), -1);
        x.feed(0, 0, 0, 0, 0);
        for (int n : new int[] {0, -1, 201, 21, BIG, SMALL}) due.is("law " + n, x.law(n), -1);
        due.is("the tape stays", x.count(6), 20);
        Due.feed(x, "1".repeat(200));
        due.is("law 201 of 220", x.law(201), -1);
        due.is("the tape stays", x.count(6), 220);
        String[] texts = {"a1(t=t)", "q1(t=t)", "a", "a(t=t)", "a1", "a1t=t", "a1()", "a1(t)", "a1(t=)", "a1(t=t", "a1(t=t)x", "a1(t=t);", "a1(t=t))",
            "a12345(t=t)", "a123456(t=t)", "a1(t=123456)", "a-1(t=t)", "a1 (t=t)", "a[1(t=t)", "a[1]](t=t)", "a1((t)=t)", "a1(t=t=t)", "a1(!t=t&!t=t)",
            "a1(t=t&)", "a1(t=t||t=t)", "az(t=t)", "a1(h=t)", "A1(t=t)", "a(1)(t=t)", "a1+(t=t)", "a1+2*3/4%5-6(t<1|t>2&t=3)", "a1(t=t);;", "a1([t]=[t+1])", "a1(t=t!)", "a1t(t=t)"};
        int[] answers = {1, -1000, -1001, -1001, -1002, -1002, -1003, -1004, -1005, -1006, -1007, -1008, -1007,
            1, -2006, -2010, -1001, -1002, -1003, -1004, -1005, -1006, 1,
            -1007, -1007, -1001, -1003, -1000, -1001, -1003, 1, -1008, 1, -1006, -1002};
        for (int i = 0; i < texts.length; i++) due.is("law " + texts[i], Due.law(x, texts[i]), answers[i]);
        String fourteen = "a1(t=t);".repeat(14);
        due.is("14 clauses", Due.law(x, fourteen.substring(0, 111)), 14);
        due.is("a 14th ;", Due.law(x, fourteen), -1112);
        due.is("a 15th clause", Due.law(x, fourteen + "a"), -4112);
        due.is("no 15th clause", Due.law(x, fourteen + "t"), -1112);
        due.is("six [", Due.law(x, "a[[[[[[1]]]]]](t=t)"), 1);
        due.is("seven [", Due.law(x, "a[[[[[[[1]]]]]]](t=t)"), -5007);
        due.is("six (", Due.law(x, "a1((((((t=t))))))"), 1);
        due.is("seven (", Due.law(x, "a1(((((((t=t)))))))"), -5008);
        due.is("six of !", Due.law(x, "a1(!!!!!t=t)"), 1);
        due.is("seven of !", Due.law(x, "a1(!!!!!!t=t)"), -5008);
        due.is("! ends with its piece", Due.law(x, "a1(!!!!!t=t&!!!!!t=t|!(t=t)&(!!!!t=t))"), 1);
        due.is("all of them", Due.law(x, "a1(!(!([t]=t)))"), 1);
        due.is("all of them, one more", Due.law(x, "a1(!(!([[t]]=t)))"), -5008);
        due.is("all of them, in the other side", Due.law(x, "a1(!(!([t]=[[t]])))"), -5012);
        due.is("a seventh that can't stand there", Due.law(x, "a1((((((t=(t))))))))"), -1010);
        String many = "a1(" + "t=t&".repeat(48) + "1=1)";
        due.is("200 bytes", Due.law(x, many + ";"), -1000 - 200);
        due.is("199 bytes", many.length() == 199 ? Due.law(x, many) : 0, 1);
        due.is("a fault leaves the one before", Due.law(x, "x") + 10000 * x.count(5), 9000);
        due.is("no law of 0 bytes", x.law(0), -1);
        Due.feed(x, "b1(t=t);a1(t=t)");
        due.is("the first bytes alone", x.law(7), 1);
        due.is("empty then", x.count(6), 0);
    }

    /** How much quicker the cloth makes thing 3 (china, at 100, foot 7, weight 50, wet 4, filled 5): 0 to 39. */
    private static int quicker(String clauses) {
        ClothPull x = with(200, 0, clauses + ";s40(t=t);b999(t=t);z99(t=t)", "39,40");
        x.cloth(140);
        x.thing(3, 2, 100, 7, 1, 50);
        x.more(3, 4, 5, 0);
        return x.still(20 + 3);
    }

    private static void lawValues() {
        String[] amounts = {"7", "i", "k", "x-90", "f", "g-40", "w", "l", "u", "c-30", "p-30", "t", "r", "2+3*4", "[2+3]*4", "20-5-3", "40/4/2", "17%5",
            "7/2", "[0-7]/2+10", "[0-7]%4+10", "99999*99999/10000/5000", "[[1+2]*[3+4]]-1", "0-5", "00007", "3*5%4", "39", "99999*99999*99999*0+1"};
        int[] wanted = {7, 3, 2, 10, 7, 10, 4, 5, 0, 9, 9, 0, 0, 14, 20, 12, 5, 2,
            3, 7, 7, 28, 20, 0, 7, 3, 39, 1};
        for (int i = 0; i < amounts.length; i++) due.is("a" + amounts[i], quicker("a" + amounts[i] + "(t=t)"), wanted[i]);
        due.is("a long row of &", quicker("a7(" + "1=1&".repeat(36) + "1=1)"), 7);
        due.is("a long row of |", quicker("a7(" + "1=2|".repeat(36) + "1=1)"), 7);
        due.is("the first that holds", quicker("a3(t=1);a4(t=0);a5(t=t)"), 4);
        due.is("none holds", quicker("a3(t=1);a4(t>0);a5(t<0)"), 0);
        due.is("none of the letter", quicker("j3(t=t)"), 0);
        String[] yes = {"1<2", "2>1", "2=2", "!1=2", "!!1=1", "(1=1)", "1=2|1=1", "1=1&2=2", "1=1|1=1&1=2", "!(1=1&1=2)", "!1=2&1=1", "1=2&1=1|1=1", "(1=1|1=2)&1=1"};
        String[] no = {"2<2", "2>2", "1=2", "!1=1", "!!1=2", "(1=2)", "1=2|2=1", "1=1&2=1", "(1=1|1=1)&1=2", "!1=1|1=2", "!1=1&1=1", "1=1&(1=2|2=1)"};
        for (String c : yes) due.is(c, quicker("a7(" + c + ")"), 7);
        for (String c : no) due.is(c, quicker("a7(" + c + ")"), 0);
        ClothPull x = with(200, 0, "h[t+1]*10+r(p=20);b999(t=t)", "20,20,20,19");
        x.seed(1);
        // The draws from 1: 2 (39022), then 1 (by 25173 * 39022 + 13849), and so on.
        long seed = 1;
        int end = 200;
        for (int t = 0; t < 4; t++) {
            seed = (25173 * seed + 13849) % 65536;
            int slip = t == 3 ? 0 : (int) Math.min(40, (t + 1) * 10 + seed % 10);
            end -= Math.max(0, (t == 3 ? 19 : 20) - slip);
        }
        due.is("h by t, p and r", x.tried(3), end);
        x = with(200, 0, "h1+i+k+x+f+g+w+l+u+c(t=t)", "20");
        x.thing(3, 2, 100, 7, 1, 50);
        due.is("nothing of a thing is told in h", x.tried(3), 181);
    }

    private static void lawRefusals() {
        due.is("an E through 0", quicker("a5/0(t=t)"), 0);
        due.is("an E's rest by 0", quicker("a5%0(t=t)"), 0);
        due.is("an E as a whole", quicker("a7+[1/0](t=t)"), 0);
        due.is("it is the first all the same", quicker("a5/0(t=t);a9(t=t)"), 0);
        due.is("a C through 0", quicker("a7(1/0=0)"), 0);
        due.is("through |", quicker("a7(1/0=0|1=1)"), 0);
        due.is("through !", quicker("a7(!1/0=0)"), 0);
        due.is("through ( )", quicker("a7((1=2|(1/0=0))|1=1)"), 0);
        due.is("then the next one", quicker("a7(1/0=0|1=1);a8(t=t)"), 8);
        due.is("not asked behind a | that holds", quicker("a7(1=1|1/0=0)"), 7);
        due.is("not asked behind an & that does not", quicker("a7(1=2&1/0=0|1=1)"), 7);
        due.is("asked behind an & that holds", quicker("a7(1=1&1/0=0|1=1)"), 0);
        due.is("s through 0 is 1 yet", ending("s1/0(t=t);a1(t=t);b99(t=t)"), 30 - 6 - 2 - 1);
    }

    /** One thing at 100, where a fold is, on a cloth of 200. */
    private static ClothPull bound(String law, String pull, int height) {
        ClothPull x = with(200, 8, law, pull);
        x.thing(0, 0, 100, 1, height, 1);
        return x;
    }

    private static void lawBounds() {
        // By the cloth 40, by the fold 40: 80 inches in the first tick, then one less, over the edge.
        ClothPull x = bound("a99(t=t);j99(t=t);b999(t=t);s99(t=t)", "40,40,40", 1);
        due.is("a and j are 40 at most", x.still(30), 80 + 79);
        x = with(60, 0, "s0-5(t=t);a3(t=0);b99(t=t)", "5,30");
        x.thing(0, 0, 50, 10, 1, 1);
        due.is("s is 1 at least", x.still(1), 3 + 2 + 1);
        x = with(60, 0, "h0-9(t=t)", "5");
        due.is("h is 0 at least", x.tried(3), 55);
        x = with(60, 0, "h99(t=t)", "40");
        due.is("the cloth is never slower than 0", x.tried(3), 60);
        x = with(60, 0, "a1(t=t);b0-1(t=t);z0-1(t=t)", "5");
        x.thing(0, 0, 40, 10, 1, 1);
        due.is("b is 0 at least", x.still(0), 1);
        // The change of 20 tilts by 1000.
        x = bound("a20(t=t);b9999(t=t)", "20", 50);
        due.is("b is 999 at most", x.still(4), 1);
        x = bound("a20(t=t);b9999(t=t)", "20", 49);
        due.is("980 it bears", x.still(4), 0);
    }

    private static int ending(String law) {
        ClothPull x = with(60, 0, law, "10*6");
        x.thing(0, 0, 30, 10, 10, 10);
        return x.still(10);
    }

    private static void tried() {
        ClothPull x = with(60, 0, "hr(t=t);a40(t=t);b999(t=t)", "10");
        x.thing(0, 0, 50, 10, 10, 10);
        // The draw is 2: the cloth is as quick as 8, the thing slides 8 and then, by 1 less each tick, 28 more.
        due.is("the end by the draw", x.tried(3), 52);
        due.is("the end without", x.still(3), 50);
        due.is("the place by the draw", x.tried(10), 50 - 36);
        // Without slips the end is at 50: the thing is on wood.
        due.is("the place without", x.still(10), 50);
        due.is("inches", x.tried(1), 36);
        due.is("ticks", x.tried(2), 9);
        due.is("X stays", x.count(7), 1);
        due.is("the end stays", x.count(1), 60);
        due.is("the place stays", x.thingIs(0, 1), 50);
        for (int w : new int[] {-1, 9, 11, 19, 29, 69, 70, 100, BIG, SMALL}) due.is("tried " + w, x.tried(w), -1);
        x.seed(0);
        // From 0 the draw is 13849 modulo 10: 9.
        due.is("by another seed", x.tried(3), 59);
    }

    private static void stillSlides() {
        ClothPull x = plain(10, "9", "99");
        int[] wanted = {1, 7, 6, 0, 0, 0, 0, 0, 0, -1, 23};
        for (int w = 0; w < wanted.length; w++) due.is("still " + w, x.still(w), wanted[w]);
        due.is("inches", x.still(20), 7);
        due.is("on cloth", x.still(30), 6);
        due.is("on wood", x.still(40), 1);
        due.is("touching", x.still(50), 0);
        due.is("filled", x.still(60), 0);
        for (int w : new int[] {-1, 9, 11, 21, 31, 41, 51, 61, 69, 70, BIG, SMALL}) due.is("still " + w, x.still(w), -1);
        // Not quicker than the cloth: 3, though a is 40; then on wood by 1 (none is told), 3 inches more.
        x = with(60, 0, "a40(t=t);b999(t=t)", "3,30");
        x.thing(0, 0, 40, 10, 10, 10);
        due.is("no quicker than the cloth", x.still(30), 3);
        due.is("on wood by 1 less", x.still(40), 3);
        due.is("till it rests", x.still(2), 4);
        // The cloth rests: 1 less in each tick, though s is told.
        x = with(60, 0, "a40(t=t);s9(t=t);b999(t=t)", "5");
        x.thing(0, 0, 40, 10, 10, 10);
        due.is("on a cloth that rests", x.still(10), 40 - 15);
        due.is("its ticks", x.still(2), 6);
        // The place counts against the end in this tick: 60 - 20 is not above 40.
        x = with(60, 0, "a40(t=t);b999(t=t)", "20");
        x.thing(0, 0, 40, 10, 10, 10);
        x.thing(1, 0, 39, 1, 10, 10);
        due.is("at the end: wood", x.still(10), 40);
        due.is("below the end: cloth", x.still(31) > 0, true);
        // Over: 20 and then 19 from 39 is place 0 yet, 18 more is over.
        due.is("over", x.still(11), -1);
        due.is("over bits", x.still(5), 2);
        due.is("all that it went", x.still(21), 20 + 19 + 18);
        due.is("one stands", x.still(0), 1);
    }

    private static void stillRocksFallsSpills() {
        // Tilts by 1: 4 (not above half of 9); by 2, on wood: 9 (not above 9).
        due.is("4.9 does not rock by 1, 9.8 rocks", plain(49, "9", "99").still(6), 1);
        due.is("and stands", plain(49, "9", "99").still(0), 1);
        due.is("8 rocks", plain(40, "9", "99").still(6), 1);
        due.is("4 does not", plain(20, "9", "99").still(6), 0);
        ClothPull x = plain(50, "9", "99");
        due.is("10 falls", x.still(4), 1);
        due.is("it rocked by 5 ahead of it", x.still(6), 1);
        due.is("it lies", x.still(10), 24);
        due.is("it went", x.still(20), 6);
        due.is("none stands", x.still(0), 0);
        x = plain(20, "1", "99");
        due.is("a fall at once", x.still(4), 1);
        due.is("is no rocking", x.still(6), 0);
        due.is("it does not move", x.still(1), 0);
        due.is("without b none bears", with(60, 0, "a1(t=t)", "10").still(4), 0);
        x = plain(10, "99", "1");
        x.more(0, 0, 3, 0);
        due.is("spills by 2 above 1", x.still(60), 2);
        due.is("spilt", x.still(8), 1);
        x = plain(10, "99", "2");
        x.more(0, 0, 3, 0);
        due.is("does not spill by 2", x.still(60), 3);
        due.is("not spilt", x.still(8), 0);
        x = plain(10, "99", "0");
        x.more(0, 0, 9, 0);
        due.is("spills in five ticks", x.still(60), 4);
        x.more(0, 0, 2, 0);
        due.is("till it is empty", x.still(60), 0);
        x.more(0, 0, 0, 0);
        due.is("empty ones spill not", x.still(8), 0);
        due.is("the table's own stays", x.thingIs(0, 6), 0);
    }

    private static ClothPull two(int placeBehind) {
        ClothPull x = with(60, 0, "a1(k=0);a4(k=1);b999(t=t)", "5");
        x.thing(0, 0, 20, 10, 5, 10);
        x.thing(1, 1, placeBehind, 6, 5, 30);
        return x;
    }

    private static void stillTouches() {
        // 1 and 4 inches; nearer than 8: one speed of 130 / 40 = 3, the one behind is put back to 8 behind.
        ClothPull x = two(28);
        due.is("touched", x.still(7), 3);
        due.is("ticks", x.still(2), 4);
        due.is("in front", x.still(10), 16);
        due.is("behind", x.still(11), 24);
        due.is("by touching in front", x.still(50), 1);
        due.is("by touching behind", x.still(51), 1);
        due.is("on cloth in front", x.still(30), 3);
        due.is("on cloth behind", x.still(31), 3);
        // From 31 it comes to 27: 8 behind is not nearer than 8, but in the next tick it is quicker by 3, 5 behind.
        x = two(31);
        due.is("later", x.still(7), 3);
        // From 25 it would be put back to 27: but not farther than it was.
        x = two(25);
        due.is("not put back farther", x.still(51), 0);
        due.is("its place then", x.still(11), 25 - 3);
        due.is("not quicker", with(60, 0, "a1(t=t);b999(t=t)", "5").still(7), 0);
        x = with(60, 0, "a1(t=t);b999(t=t)", "5");
        x.thing(0, 0, 20, 10, 5, 10);
        x.thing(1, 0, 21, 10, 5, 10);
        due.is("near, but none is quicker", x.still(7), 0);
        due.is("the quicker one in front", two(20).still(7), 0);
        // Both come to 19: of like places the lower number is in front.
        due.is("thing 1, quicker, behind", two(23).still(7), 3);
        x = with(60, 0, "a1(k=0);a4(k=1);b999(t=t)", "5");
        x.thing(1, 0, 20, 10, 5, 10);
        x.thing(0, 1, 23, 6, 5, 30);
        due.is("thing 0, quicker, in front", x.still(7), 0);
        // Three: the quickest one behind pushes the middle one only after the middle one has pushed the first one.
        x = with(100, 0, "a1(i=0);a3(i=1);a9(i=2);b999(t=t)", "9");
        x.thing(0, 0, 40, 10, 1, 10);
        x.thing(1, 0, 50, 10, 1, 10);
        x.thing(2, 0, 60, 10, 1, 10);
        // To 39, 47, 51; 0 and 1: speed 2, 1 put back to 49; 1 and 2: (2 + 9) / 2 = 5, 2 put back to 59.
        due.is("all touched", x.still(7), 7);
        // Then to 38, 45, 55; 0 and 1: (1 + 4) / 2 = 2, 1 back to 48; 1 and 2: (2 + 4) / 2 = 3, 2 back to 58.
        // Then to 37, 46, 56; 0 and 1: (1 + 2) / 2 = 1, 1 back to 47; 1 and 2: (1 + 2) / 2 = 1, 2 back to 57.
        due.is("ticks of three", x.still(2), 4);
        due.is("first", x.still(10), 37);
        due.is("second", x.still(11), 47);
        due.is("third", x.still(12), 57);
        due.is("third by touching", x.still(52), 3);
        due.is("first by touching", x.still(50), 3);
        due.is("first on cloth", x.still(30), 0);
    }

    private static void stillTen() {
        // Ten in a row; the last but one is slower than the last one alone.
        ClothPull x = with(100, 0, "a1(i<9);a5(i=9);b999(t=t)", "5");
        for (int i = 0; i < 10; i++) x.thing(i, 0, 10 + 8 * i, 4, 1, 1);
        x.thing(8, 0, 77, 4, 1, 1);
        x.thing(9, 0, 82, 4, 1, 1);
        due.is("the last two of ten", x.still(7), 768);
        due.is("all ten stand", x.still(0), 10);
        due.is("most of ten", x.most(1), 1023);
    }

    private static ClothPull folded(int place) {
        ClothPull x = with(60, 8, "j7(t=t);b999(t=t)", "10");
        x.thing(0, 0, place, 10, 5, 10);
        return x;
    }

    private static void stillFolds() {
        // Fold 3 goes from 30 to 20: by 7, then 6, 5, 4, 3 to place 0, then over by 2.
        ClothPull x = folded(25);
        due.is("over by a fold", x.still(10), -1);
        due.is("inches by a fold", x.still(1), 27);
        due.is("ticks by a fold", x.still(2), 6);
        due.is("at 20: not below", folded(20).still(1), 0);
        due.is("at 21: below", folded(21).still(1) > 0, true);
        due.is("at 30: from not below", folded(30).still(1), 28);
        due.is("at 31: was below", folded(31).still(1), 0);
        x = folded(25);
        x.cloth(30);
        due.is("a fold at the end is none", x.still(1), 0);
        x.cloth(36);
        due.is("a fold below the end", x.still(1) > 0, true);
        x = with(60, 8, "a2(t=t);j7(t=t);b999(t=t)", "10");
        x.thing(0, 0, 55, 10, 5, 10);
        due.is("wood knows no folds", x.still(1), 0);
        x.thing(0, 0, 30, 10, 5, 10);
        due.is("a and j", x.still(1), 9 + 8 + 7 + 6 + 5);
        x = with(64, 63, "j7(t=t);b999(t=t)", "40");
        x.thing(0, 0, 12, 10, 5, 10);
        // Folds at 0, 10, 21, 32, 42, 53 go 40: of those not below 12 the ones at 21, 32, 42 come below 12 (-19, -8, 2).
        due.is("several at once jerk once", x.still(1), 7 + 6);
    }

    private static void done() {
        ClothPull x = plain(10, "9", "0");
        x.more(0, 0, 9, 3);
        x.thing(1, 0, 5, 1, 10, 10);
        x.more(1, 2, 3, 4);
        // Thing 1 falls at once (tilt 10 above 9), at 5; a thing at 0 goes over at once.
        x.thing(2, 0, 0, 40, 10, 10);
        due.is("done", x.done(), 1);
        due.is("things", x.count(3), 3);
        due.is("place", x.thingIs(0, 1), 23);
        due.is("filled", x.thingIs(0, 6), 4);
        due.is("height", x.thingIs(0, 3), 10);
        due.is("fallen: place", x.thingIs(1, 1), 5);
        due.is("fallen: height", x.thingIs(1, 3), 1);
        due.is("fallen: foot", x.thingIs(1, 2), 1);
        due.is("fallen: wet", x.thingIs(1, 5), 2);
        due.is("fallen: filled", x.thingIs(1, 6), 2);
        due.is("fallen: worth", x.thingIs(1, 7), 4);
        due.is("over", x.thingIs(2, 0), -1);
        due.is("end", x.count(1), 0);
        long seed = 1;
        for (int i = 0; i < 6; i++) seed = (25173 * seed + 13849) % 65536;
        due.is("X", x.count(7), seed);
        due.is("again: all stand", x.done(), 2);
        due.is("no pull", new ClothPull().done(), -1);
        x = with(60, 0, "hr(t=t)", "10");
        due.is("by the draws", x.done(), 0);
        due.is("by the draws", x.count(1), 52);
        due.is("X of one draw", x.count(7), 39022);
    }

    private static void thingIs() {
        ClothPull x = new ClothPull();
        x.thing(4, 3, 77, 12, 34, 56);
        x.more(4, 1, 2, 3);
        int[] wanted = {3, 77, 12, 34, 56, 1, 2, 3, -1};
        for (int w = 0; w < 9; w++) due.is("thingIs " + w, x.thingIs(4, w), wanted[w]);
        for (int w : new int[] {-1, 8, BIG, SMALL}) due.is("thingIs " + w, x.thingIs(4, w), -1);
        for (int i : new int[] {-1, 3, 5, 10, 36, BIG, SMALL}) due.is("thingIs of " + i, x.thingIs(i, 1), -1);
    }

    private static ClothPull small() {
        ClothPull x = new ClothPull();
        x.table(10, 0);
        Due.law(x, "a40(t=t);s40(t=t);b999(t=t)");
        x.thing(0, 0, 5, 10, 10, 10);
        return x;
    }

    private static void pace() {
        due.is("nothing to spoil", new ClothPull().pace(), 1);
        due.is("the end must come to 5 at once", small().pace(), 5);
        ClothPull x = new ClothPull();
        x.table(200, 0);
        Due.law(x, "a1(t=t)");
        x.thing(0, 0, 0, 10, 1, 10);
        due.is("none", x.pace(), -2);
        x.cloth(0);
        due.is("no cloth", x.pace(), 1);
        x.cloth(40);
        due.is("40", x.pace(), 40);
        x.cloth(41);
        due.is("41 needs two ticks at 40", x.pace(), -2);
        // A law that lets it fall in one tick alone: the 61st never comes; the 60th comes at paces of 1 to 3.
        x = new ClothPull();
        x.table(200, 0);
        Due.law(x, "a1(t=60);b0(t=t)");
        x.thing(0, 0, 10, 10, 10, 10);
        due.is("60 ticks at most", x.pace(), 1);
        Due.law(x, "a1(t=59);b0(t=t)");
        due.is("60 ticks", x.pace(), 4);
    }

    private static void best() {
        ClothPull x = small();
        int[] wanted = {5, 1, 1, 1, 0};
        for (int w = 0; w < 5; w++) due.is("best " + w, x.best(w), wanted[w]);
        for (int w : new int[] {-1, 5, BIG, SMALL}) due.is("best " + w, x.best(w), -1);
        x.thing(0, 0, 4, 10, 10, 10);
        due.is("another place: at once 6", x.best(0), 6);
        x.cloth(9);
        due.is("another end", x.best(0), 5);
        Due.law(x, "a0(t=t)");
        due.is("another law", x.best(0), 1);
        x.away(0);
        due.is("no thing", x.best(3), 0);
        x.undo();
        x = small();
        x.thing(0, 0, 0, 40, 10, 10);
        x.thing(1, 0, 7, 40, 10, 10);
        // Only a pull of 10 at once lets the one at the edge stand, and none goes an inch then.
        int[] edge = {10, 1, 1, 2, 0};
        for (int w = 0; w < 5; w++) due.is("edge best " + w, x.best(w), edge[w]);
        // It falls in any tick in which the pace is not 4 (the first three) or 7 (all others).
        x = new ClothPull();
        x.table(100, 0);
        Due.law(x, "a1(!(t<3&p=4|t>2&p=7))");
        x.thing(0, 0, 10, 1, 1, 1);
        int[] only = {4, 7, 3, 1, 0};
        for (int w = 0; w < 5; w++) due.is("only best " + w, x.best(w), only[w]);
        Due.law(x, "a1(!(t<6&p=12|t>5&p=1))");
        int[] last = {12, 1, 6, 1, 0};
        for (int w = 0; w < 5; w++) due.is("last best " + w, x.best(w), last[w]);
        Due.law(x, "a1(!(t<1&p=1|t>0&p=12))");
        int[] other = {1, 12, 1, 1, 0};
        for (int w = 0; w < 5; w++) due.is("other best " + w, x.best(w), other[w]);
        // Whatever of a thing is changed, and the table, and what is undone, changes it.
        String[] asks = {"k=1", "x=9", "f=2", "g=2", "w=1", "l=1"};
        int[][] things = {{1, 10, 1, 1, 1, 0, 0}, {0, 9, 1, 1, 1, 0, 0}, {0, 10, 2, 1, 1, 0, 0}, {0, 10, 1, 1, 2, 0, 0}, {0, 10, 1, 1, 1, 1, 0}, {0, 10, 1, 1, 1, 0, 1}};
        for (int i = 0; i < asks.length; i++) {
            Due.law(x, "a1(" + asks[i] + ")");
            x.thing(0, 0, 10, 1, 1, 1);
            due.is("it stands, not " + asks[i], x.best(3), 1);
            int[] v = things[i];
            x.keep();
            x.thing(0, v[0], v[1], v[2], v[3], v[4]);
            x.more(0, v[5], v[6], 0);
            due.is("it does not: " + asks[i], x.best(2) * 10 + x.best(3), 10);
            x.undo();
            due.is("it stands again", x.best(3), 1);
        }
        Due.law(x, "a1(t=t);b1(t=t)");
        x.thing(0, 0, 10, 2, 3, 1);
        due.is("a tilt of 1", x.best(4) > 0, true);
        x.thing(0, 0, 10, 2, 4, 1);
        due.is("a tilt of 2", x.best(4), 0);
    }

    private static ClothPull frail() {
        ClothPull x = with(60, 0, "a1(t=t);s2(t=t);b10(t=t)", "30");
        x.thing(0, 0, 40, 10, 10, 10);
        x.thing(1, 1, 10, 1, 40, 10);
        return x;
    }

    private static void put() {
        ClothPull x = frail();
        due.is("one stands ahead of it", x.still(0), 1);
        due.is("put 10", x.put(3, 10), 2);
        due.is("put 11", x.put(3, 11), 1);
        due.is("put 0", x.put(3, 0), 1);
        due.is("put 1", x.put(3, 1), 0);
        due.is("nothing is changed", x.thingIs(0, 1), 40);
        for (int w : new int[] {-1, 2, 9, 13, 32, 33, BIG, SMALL}) due.is("put what " + w, x.put(3, w), -1);
        for (int s : new int[] {0, 1, 2, 5, 7, 1027, -1, BIG, SMALL}) due.is("put of " + s, x.put(s, 10), -1);
        x.thing(2, 0, 50, 10, 10, 10);
        due.is("put 7: least row", x.put(7, 0), 0);
        due.is("put 7: least row", x.put(7, 1), 2);
        due.is("put 7: least row", x.put(7, 2), 1);
        due.is("a told one that is not among them", x.put(3, 2), -1);
        due.is("put 12", x.put(7, 12), 3);
        due.is("place 0", x.thingIs(0, 1), 40);
        due.is("place 1", x.thingIs(1, 1), 50);
        due.is("place 2", x.thingIs(2, 1), 10);
        due.is("so it stands", x.still(0), 3);
        for (int i = 3; i < 6; i++) x.thing(i, 0, 30 + i, 1, 1, 1);
        due.is("five", x.put(31, 10), 5 + 1);
        due.is("six are too many", x.put(63, 10), -1);
        // Each falls but at the place of the one that mirrors it: the last row of all.
        x = with(60, 0, "a1(!x=[5-i]*5)", "5");
        for (int i = 0; i < 5; i++) x.thing(i, 0, 5 + 5 * i, 1, 1, 1);
        due.is("the last row stands", x.put(31, 10), 5);
        for (int i = 0; i < 5; i++) due.is("the last row, " + i, x.put(31, i), 4 - i);
    }

    private static void most() {
        ClothPull x = frail();
        due.is("most 0", x.most(0), 1);
        due.is("most 1", x.most(1), 1);
        for (int w : new int[] {-1, 2, BIG, SMALL}) due.is("most " + w, x.most(w), -1);
        due.is("most of none", new ClothPull().most(0), 0);
        due.is("most of none", new ClothPull().most(1), 0);
        // Each alone stands; together the one behind pushes the one in front over.
        x = with(60, 0, "a1(k=0);a4(k=1);b999(t=t)", "5");
        x.thing(2, 0, 2, 10, 1, 1);
        x.thing(5, 1, 10, 10, 1, 99);
        due.is("together the first one goes over", x.still(5), 4);
        due.is("one of two", x.most(0), 1);
        due.is("the least bits", x.most(1), 4);
        due.is("nothing is changed", x.count(3), 36);
    }

    private static void worth() {
        ClothPull x = folded(25);
        due.is("ironed", x.worth(3, 0), 1);
        due.is("ironed, inches", x.worth(3, 1), 27);
        due.is("nothing is changed", x.count(2), 8);
        for (int q : new int[] {-1, 0, 4, 6, 35, BIG, SMALL}) due.is("no fold " + q, x.worth(q, 0), -100000);
        for (int w : new int[] {-1, 4, BIG, SMALL}) due.is("what " + w, x.worth(3, w), -100000);
        x.cloth(30);
        due.is("a fold that is none", x.worth(3, 0), -100000);
        x = with(60, 0, "a1(w=0);a9(w=2);b999(t=t)", "9");
        x.thing(0, 0, 30, 10, 1, 10);
        due.is("it is dry", x.worth(0, 2), -100000);
        x.more(0, 2, 0, 0);
        // Wet: 9, 8, 7, 6 inches to place 0, then 5 over the edge; dry: 1 inch.
        due.is("over", x.still(1), 9 + 8 + 7 + 6 + 5);
        due.is("dried", x.worth(0, 2), 1);
        due.is("dried, inches", x.worth(0, 3), 34);
        due.is("nothing is changed", x.thingIs(0, 5), 2);
        for (int q : new int[] {-1, 1, 10, 32, BIG, SMALL}) due.is("dried at " + q, x.worth(q, 2), -100000);
    }

    private static void wasWet() {
        ClothPull x = with(60, 0, "a1(w=0);a5(w=3);b999(t=t)", "10");
        due.is("no things", x.wasWet(0), -1);
        Due.feed(x, 40);
        due.is("no things, with a tape", x.wasWet(0), -1);
        due.is("the tape stays", x.count(6), 20);
        x.check(0);
        x.thing(0, 0, 40, 10, 1, 10);
        due.is("no tape", x.wasWet(0), -1);
        due.is("as told", x.still(10), 39);
        int[][] rows = {{25, 1, 0, 3}, {40, 8, 0, 1}, {39, 0, -2, -2}, {255, 0, -2, -2}};
        for (int[] r : rows) {
            for (int w = 0; w < 3; w++) {
                Due.feed(x, r[0]);
                due.is("wasWet " + w + " at " + r[0], x.wasWet(w), r[w + 1]);
                due.is("empty then", x.count(6), 0);
            }
        }
        Due.feed(x, 25);
        for (int w : new int[] {-1, 3, BIG, SMALL}) due.is("wasWet " + w, x.wasWet(w), -1);
        due.is("the tape stays", x.count(6), 20);
        x.check(0);
        x.thing(7, 0, 20, 1, 1, 1);
        Due.feed(x, 39, 5);
        due.is("the other one", x.wasWet(1), 7);
        Due.feed(x, 39, 5);
        due.is("its wet", x.wasWet(2), 3);
        Due.feed(x, 25, 5);
        due.is("not both", x.wasWet(0), 0);
        due.is("nothing is changed", x.thingIs(7, 5), 0);
    }

    private static void howQuick() {
        ClothPull x = small();
        int[][] rows = {{5, 36, 5}, {255, 4, 1}, {7, 0, -2}};
        for (int[] r : rows) {
            for (int w = 0; w < 2; w++) {
                Due.feed(x, r[0]);
                due.is("howQuick " + w + " at " + r[0], x.howQuick(w), r[w + 1]);
                due.is("empty then", x.count(6), 0);
            }
        }
        // As many ticks as the cloth needs: five at 8 of 33 inches; the fifth one slows it by 1 alone.
        ClothPull y = with(60, 0, "a6(p=8);s1(p>0);s9(t=t);b999(t=t)", "1");
        y.cloth(33);
        y.thing(0, 0, 24, 10, 1, 1);
        Due.feed(y, 4);
        due.is("the pace of 8", y.howQuick(1), 8);
        Due.feed(y, 24);
        due.is("all other paces", y.howQuick(0), 39);
        due.is("no tape", x.howQuick(0), -1);
        Due.feed(x, 5);
        for (int w : new int[] {-1, 2, BIG, SMALL}) due.is("howQuick " + w, x.howQuick(w), -1);
        due.is("the tape stays", x.count(6), 20);
        x.away(0);
        due.is("no things", x.howQuick(0), -1);
        due.is("the tape stays", x.count(6), 20);
    }

    /** Falls if the cloth is quicker than 6 in the first tick: by a draw of 0 to 3. */
    private static ClothPull shaky() {
        ClothPull x = with(60, 0, "hr(t=t);a40(t=t);b6(t=t)", "10,0");
        x.thing(0, 0, 40, 10, 10, 10);
        x.more(0, 0, 0, 7);
        return x;
    }

    private static void odds() {
        ClothPull x = shaky();
        due.is("odds 0", x.odds(1, 1, 0), 3);
        due.is("odds 1", x.odds(1, 1, 1), 5);
        due.is("over two ticks", x.odds(2, 1, 0) * 10 + x.odds(2, 1, 1), 35);
        due.is("sure", x.odds(1, 0, 0) * 10 + x.odds(1, 0, 1), 11);
        due.is("never", x.odds(1, 2, 0) * 10 + x.odds(1, 10, 1), 1);
        for (int n : new int[] {-1, 0, 4, BIG, SMALL}) due.is("odds n " + n, x.odds(n, 0, 0), -1);
        for (int s : new int[] {-1, 11, BIG, SMALL}) due.is("odds of " + s, x.odds(1, s, 0), -1);
        for (int w : new int[] {-1, 2, BIG, SMALL}) due.is("odds what " + w, x.odds(1, 0, w), -1);
        due.is("no pull", new ClothPull().odds(1, 0, 0), -1);
        // The slip of the second tick counts only if its draws do; three ticks: 999 of 1000.
        x = with(60, 0, "h9(r=0)", "10,10,10");
        Due.law(x, "h9(r=0&t=0);h9(r=0&t=1);h9(r=0&t=2);a40(c=1);b0(t=t)");
        x.thing(0, 0, 20, 10, 10, 10);
        due.is("one tick", x.odds(1, 1, 0) * 10000 + x.odds(1, 1, 1), 9 * 10000 + 10);
        due.is("two ticks", x.odds(2, 1, 0) * 10000 + x.odds(2, 1, 1), 81 * 10000 + 100);
        due.is("three ticks", x.odds(3, 1, 0) * 10000 + x.odds(3, 1, 1), 729 * 10000 + 1000);
        due.is("X stays", x.count(7), 1);
    }

    private static void should() {
        ClothPull x = shaky();
        due.is("should", x.should(1, 100), 6 * 100 - 4 * 7);
        due.is("over two", x.should(2, 100), 60 * 100 - 40 * 7);
        due.is("without a prize", x.should(1, 0), -28);
        due.is("by 9999", x.should(1, 9999), 6 * 9999 - 28);
        x.thing(1, 0, 50, 1, 60, 10);
        x.more(1, 0, 0, 50);
        // Thing 1 is on cloth, and falls, if the end is above 50: by any draw but 0; then nothing is won.
        due.is("less all that do not stand", x.should(1, 100), -4 * 7 - 9 * 50);
        for (int n : new int[] {-1, 0, 4, BIG, SMALL}) due.is("should n " + n, x.should(n, 0), -1000000000);
        for (int p : new int[] {-1, 10000, BIG, SMALL}) due.is("should prize " + p, x.should(1, p), -1000000000);
        due.is("no pull", new ClothPull().should(1, 0), -1000000000);
    }

    private static void practice() {
        ClothPull x = new ClothPull();
        int[][] rows = {{10, 5, 2, 2}, {0, 9, 2, 0}, {10, 0, 2, 1}, {5, 5, 2, 1}, {4, 5, 2, 0}, {10, 1, 9999, 4}, {10, 9, 2, 7}, {1, 9, 10, 1}, {1, 9, 9, 0}, {10, 0, 9999, 1}};
        for (int[] r : rows) due.is("practice " + r[0] + " " + r[1] + " " + r[2], x.practice(r[0], r[1], r[2]), r[3]);
        for (int s : new int[] {-1, 11, BIG, SMALL}) due.is("spoilt " + s, x.practice(s, 0, 2), -1);
        for (int t : new int[] {-1, 10, BIG, SMALL}) due.is("tenths " + t, x.practice(0, t, 2), -1);
        for (int o : new int[] {-1, 0, 1, 10000, BIG, SMALL}) due.is("of " + o, x.practice(0, 0, o), -1);
    }

    private static void seed() {
        ClothPull x = new ClothPull();
        for (int s : new int[] {-1, 65536, BIG, SMALL}) due.is("seed " + s, x.seed(s), false);
        due.is("X", x.count(7), 1);
        due.is("seed 65535", x.seed(65535), true);
        due.is("X", x.count(7), 65535);
        Due.pull(x, "1");
        x.done();
        due.is("the next X", x.count(7), (25173L * 65535 + 13849) % 65536);
        due.is("seed 0", x.seed(0), true);
        due.is("X", x.count(7), 0);
    }

    private static void keepAndUndo() {
        ClothPull x = frail();
        due.is("none kept", x.undo(), false);
        due.is("keep", x.keep(), 2);
        x.done();
        x.away(0);
        x.more(1, 1, 1, 1);
        due.is("undo", x.undo(), true);
        due.is("X", x.count(7), 1);
        due.is("end", x.count(1), 60);
        due.is("things", x.count(3), 3);
        due.is("place", x.thingIs(1, 1), 10);
        due.is("height", x.thingIs(1, 3), 40);
        due.is("wet", x.thingIs(1, 5), 0);
        Due.law(x, "a2(t=t);b1(t=t)");
        Due.pull(x, "1,2,3");
        x.table(77, 5);
        due.is("undo again", x.undo(), true);
        due.is("length", x.count(0), 60);
        due.is("folds", x.count(2), 0);
        due.is("the pull is not undone", x.count(4), 3);
        due.is("the law is not undone", x.count(5), 2);
        x.thing(4, 0, 0, 1, 1, 1);
        due.is("keep three", x.keep(), 3);
        x.table(20, 1);
        due.is("keep none", x.keep(), 0);
        x.table(30, 2);
        x.undo();
        due.is("the last one counts", x.count(0) * 10 + x.count(2), 201);
    }

    private static void check() {
        ClothPull x = new ClothPull();
        x.thing(0, 0, 30, 1, 1, 1);
        x.thing(2, 0, 99, 1, 1, 1);
        for (int n : new int[] {-1, 1, 11, BIG, SMALL}) due.is("check " + n, x.check(n), -2);
        x.feed(30, 0, 99, 0, 0);
        due.is("check 11 with a tape", x.check(11), -2);
        due.is("check 6 of 5", x.check(6), -2);
        due.is("the tape stays", x.count(6), 20);
        due.is("check 5", x.check(5), -1);
        due.is("empty then", x.count(6), 0);
        x.feed(30, 0, 98, 0, 0);
        due.is("the third one", x.check(3), 2);
        x.feed(30, 0, 98, 0, 0);
        due.is("two of them", x.check(2), -1);
        x.feed(30, 7, 98, 0, 0);
        due.is("one that is not told", x.check(5), 1);
        for (int bit = 8; bit < 32; bit++) {
            x.feed(30 | 1 << bit, 0, 0, 0, 0);
            due.is("all four bytes", x.check(1), 0);
        }
        x.feed(-1, 0, 0, 0, 0);
        due.is("a number below 0", x.check(1), 0);
        x.feed(-1, 0, 0, 0, 0);
        due.is("check 0", x.check(0), -1);
        due.is("empty then", x.count(6), 0);
        x.feed(30, 0, 99, 0, 0);
        x.feed(0, 0, 0, 0, 0);
        due.is("check 10", x.check(10), -1);
    }

    private static void count() {
        ClothPull x = with(60, 5, "a1(t=t);b2(t=t)", "7,8*2");
        x.cloth(44);
        x.thing(1, 0, 3, 1, 1, 1);
        x.thing(3, 0, 3, 1, 1, 1);
        x.seed(99);
        x.feed(0, 0, 0, 0, 0);
        int[] wanted = {60, 44, 5, 10, 3, 2, 20, 99, -1};
        for (int w = 0; w < 9; w++) due.is("count " + w, x.count(w), wanted[w]);
        due.is("pace 0", x.count(100), 7);
        due.is("pace 1", x.count(101), 8);
        due.is("pace 2", x.count(102), 8);
        for (int w : new int[] {-1, 8, 99, 103, 160, BIG, SMALL}) due.is("count " + w, x.count(w), -1);
    }
}
