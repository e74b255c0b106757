/** The bounds of what the law's letters answer, what is told in them, what is refused, 32 bits. */
public final class LawBoundsTest {
    private static final Due due = new Due();

    public static void main(String[] args) {
        quicker();
        slower();
        slips();
        jerks();
        bears();
        spills();
        noneIsTold();
        theFirstThatHolds();
        comparisons();
        thirtyTwoBits();
        leftToRight();
        refusedAmounts();
        refusedConditions();
        asMuchAsMatters();
        ticksAndPaces();
        drawsInTheHandAlone();
        thingsNotInTheHand();
        whatIsToldOfAThing();
        whatIsToldAtItsBounds();
        due.end();
    }

    /** A thing at 100 (foot and height 1: what changes is its tilt) where a fold lies, on a cloth of 200 inches. */
    private static ClothPull on(String law, String pull) {
        ClothPull x = new ClothPull();
        x.table(200, 8);
        due.is("law " + law, Due.law(x, law) > 0, true);
        due.is("pull " + pull, Due.pull(x, pull) > 0, true);
        x.thing(0, 2, 100, 1, 1, 1);
        return x;
    }

    /** By how much its speed is changed in the tick: by that much it stands, by one less it falls. */
    private static int change(String law, int tick, String pull) {
        for (int b = 0; b < 200; b++) {
            ClothPull x = on(law + ";b" + b + "(t=" + tick + ");b999(t=t)", pull);
            if (x.still(4) == 0) return b;
        }
        return -1;
    }

    private static void quicker() {
        due.is("a of -99999", change("a0-99999(t=t)", 0, "40"), 0);
        due.is("a of -1", change("a0-1(t=t)", 0, "40"), 0);
        due.is("a of 0", change("a0(t=t)", 0, "40"), 0);
        due.is("a of 1", change("a1(t=t)", 0, "40"), 1);
        due.is("a of 39", change("a39(t=t)", 0, "40"), 39);
        due.is("a of 40", change("a40(t=t)", 0, "40"), 40);
        due.is("a of 41", change("a41(t=t)", 0, "40"), 40);
        due.is("a of 99999", change("a99999(t=t)", 0, "40"), 40);
        due.is("a of 6 by a cloth of 7", change("a6(t=t)", 0, "7"), 6);
        due.is("a of 7 by a cloth of 7", change("a7(t=t)", 0, "7"), 7);
        due.is("a of 8 by a cloth of 7", change("a8(t=t)", 0, "7"), 7);
        due.is("a of 40 by a cloth of 0", change("a40(t=t)", 0, "0"), 0);
    }

    /** How far a thing that came to wood by a speed of 10 slides there: speeds 10 - s, 10 - 2s, .. together. */
    private static int onWood(String s) {
        ClothPull x = new ClothPull();
        x.table(200, 0);
        Due.law(x, "a10(t=t);b999(t=t)" + s);
        Due.pull(x, "10,40*4");
        x.cloth(120);
        x.thing(0, 0, 100, 1, 1, 1);
        due.is("ten on cloth", x.still(30), 10);
        return x.still(40);
    }

    private static void slower() {
        int byOne = 9 + 8 + 7 + 6 + 5 + 4 + 3 + 2 + 1;
        due.is("no s: 1", onWood(""), byOne);
        due.is("s of -1: 1", onWood(";s0-1(t=t)"), byOne);
        due.is("s of -99999: 1", onWood(";s0-99999(t=t)"), byOne);
        due.is("s of 0: 1", onWood(";s0(t=t)"), byOne);
        due.is("s of 1", onWood(";s1(t=t)"), byOne);
        due.is("s of 2", onWood(";s2(t=t)"), 8 + 6 + 4 + 2);
        due.is("s of 3", onWood(";s3(t=t)"), 7 + 4 + 1);
        due.is("s of 9", onWood(";s9(t=t)"), 1);
        due.is("s of 10", onWood(";s10(t=t)"), 0);
        due.is("s of 11", onWood(";s11(t=t)"), 0);
        due.is("s of 40", onWood(";s40(t=t)"), 0);
        due.is("s of 99999", onWood(";s99999(t=t)"), 0);
        due.is("s that does not hold: 1", onWood(";s9(t<0)"), byOne);
        due.is("s that is refused: 1", onWood(";s9/0(t=t)"), byOne);
        // The quickest there is on wood: 39 to rest at once, by 38 it slides 1 yet.
        due.is("39 by 40", quickest("40"), 39);
        due.is("39 by 39", quickest("39"), 39);
        due.is("39 by 38", quickest("38"), 39 + 1);
        due.is("39 by 41", quickest("41"), 39);
        // By 2 inches it comes below the end again: on cloth it goes 1 more.
        due.is("39 by 37", quickest("37"), 39 + 2 + 1);
    }

    private static int quickest(String s) {
        ClothPull x = new ClothPull();
        x.table(200, 0);
        Due.law(x, "a39(t=t);b999(t=t);s" + s + "(t=t)");
        Due.pull(x, "39,40");
        x.cloth(140);
        x.thing(0, 0, 100, 1, 1, 1);
        return x.still(1);
    }

    private static void slips() {
        String[] amounts = {"0-99999", "0-1", "0", "1", "2", "38", "39", "40", "41", "99999", "5/0"};
        int[] ways = {40, 40, 40, 39, 38, 2, 1, 0, 0, 0, 40};
        for (int i = 0; i < amounts.length; i++) {
            ClothPull x = on("h" + amounts[i] + "(t=t)", "40");
            due.is("h of " + amounts[i], x.tried(3), 200 - ways[i]);
            due.is("no slips, of " + amounts[i], x.still(3), 160);
        }
        for (int h = 6; h <= 8; h++) due.is("h of " + h + " by a pace of 7", on("h" + h + "(t=t)", "7").tried(3), h == 6 ? 199 : 200);
        due.is("h of 1 by a pace of 0", on("h1(t=t)", "0").tried(3), 200);
    }

    private static void jerks() {
        String[] amounts = {"0-99999", "0-1", "0", "1", "2", "39", "40", "41", "99999", "1/0"};
        int[] changes = {0, 0, 0, 1, 2, 39, 40, 40, 40, 0};
        for (int i = 0; i < amounts.length; i++) {
            due.is("j of " + amounts[i], change("j" + amounts[i] + "(t=t)", 0, "5"), changes[i]);
            due.is("a of 3 and j of " + amounts[i], change("a3(t=t);j" + amounts[i] + "(t=t)", 0, "5"), 3 + changes[i]);
        }
        due.is("the most: a and j of 40", change("a40(t=t);j40(t=t)", 0, "40"), 80);
        due.is("the most: a and j of 41", change("a41(t=t);j41(t=t)", 0, "40"), 80);
    }

    /** Whether a thing of a foot of 1 falls by the change in the first tick. */
    private static boolean falls(String b, int change, int height) {
        ClothPull x = new ClothPull();
        x.table(200, 0);
        Due.law(x, "a" + change + "(t=0);b" + b + "(t=0);b999(t=t)");
        Due.pull(x, "40");
        x.thing(0, 0, 150, 1, height, 1);
        return x.still(4) == 1;
    }

    private static void bears() {
                due.is("b of 998, a tilt of 986", falls("998", 29, 34), false);
        due.is("b of 998, a tilt of 999", falls("998", 37, 27), true);
        due.is("b of 999, a tilt of 999", falls("999", 37, 27), false);
        due.is("b of 999, a tilt of 1000", falls("999", 40, 25), true);
        due.is("b of 1000, a tilt of 999", falls("1000", 37, 27), false);
        due.is("b of 1000, a tilt of 1000", falls("1000", 40, 25), true);
        due.is("b of 99999, a tilt of 1000", falls("99999", 40, 25), true);
        due.is("b of -1, no tilt", falls("0-1", 0, 60), false);
        due.is("b of -1, a tilt of 1", falls("0-1", 1, 1), true);
        due.is("b of 0, no tilt", falls("0", 0, 60), false);
        due.is("b of 0, a tilt of 1", falls("0", 1, 1), true);
        due.is("b of 1, a tilt of 1", falls("1", 1, 1), false);
        due.is("b of 1, a tilt of 2", falls("1", 1, 2), true);
        due.is("b that is refused, a tilt of 1", falls("9/0", 1, 1), true);
        due.is("b that is refused, no tilt", falls("9/0", 0, 1), false);
    }

    /** How much is left of 9 behind a tick in which the speed is changed by so much. */
    private static int left(String z, int a, int j) {
        ClothPull x = on("a" + a + "(t=0);j" + j + "(t=0);b999(t=t);z" + z + "(t=0);z99(t=t)", "40");
        x.more(0, 0, 9, 0);
        return x.still(60);
    }

    private static void spills() {
        due.is("z of -1, no change", left("0-1", 0, 0), 9);
        due.is("z of -99999, no change", left("0-99999", 0, 0), 9);
        due.is("z of -1, a change of 1", left("0-1", 1, 0), 8);
        due.is("z of 0, no change", left("0", 0, 0), 9);
        due.is("z of 0, a change of 1", left("0", 1, 0), 8);
        due.is("z of 1, a change of 1", left("1", 1, 0), 9);
        due.is("z of 1, a change of 2", left("1", 2, 0), 8);
        due.is("z of 79, a change of 80", left("79", 40, 40), 8);
        due.is("z of 80, a change of 80", left("80", 40, 40), 9);
        due.is("z of 99, a change of 80", left("99", 40, 40), 9);
        due.is("z of 100, a change of 80", left("100", 40, 40), 9);
        due.is("z of 99999, a change of 80", left("99999", 40, 40), 9);
        due.is("z that is refused, a change of 1", left("9/0", 1, 0), 8);
    }

    private static void noneIsTold() {
        due.is("no a", change("h9(t=t)", 0, "40"), 0);
        due.is("no j", change("a7(t=t)", 0, "40"), 7);
        due.is("no b: a tilt of 1 falls", on("a1(t=t)", "5").still(4), 1);
        due.is("no b: without a tilt none falls", on("a0(t=t)", "5").still(4), 0);
        due.is("no h", on("a1(t=t)", "5").tried(3), 195);
        ClothPull x = on("a1(t=0);b9(t=t)", "5");
        x.more(0, 0, 9, 0);
        due.is("no z: each change spills", x.still(60), 7);
        due.is("one whose C does not hold is none", change("a9(t>0)", 0, "40"), 0);
        x = new ClothPull();
        x.thing(0, 0, 50, 1, 60, 1);
        x.more(0, 0, 9, 0);
        Due.pull(x, "40*2");
        for (int w : new int[] {1, 4, 5, 6, 7, 8}) due.is("without a law, " + w, x.still(w), 0);
        due.is("without a law the hand does not slip", x.tried(3), 20);
        // In place of the one before: as often as one likes, and also behind the longest ones.
        x = on("a1(t=t)", "40");
        String longest = "a10(" + "t=t&".repeat(48) + "t=t)";
        for (int i = 0; i < 20; i++) {
            due.is("the longest, again", Due.law(x, longest), 1);
            Due.law(x, "a123456");
        }
        due.is("fourteen behind it", Due.law(x, "a3(t=9);".repeat(13) + "b4(t=t)"), 14);
        due.is("its a is none", x.still(1) + x.still(4), 0);
        due.is("one behind it", Due.law(x, "a3(t=t);b3(t=t)"), 2);
        due.is("its a is 3", x.still(1), 3 + 2 + 1);
    }

    private static void theFirstThatHolds() {
        due.is("the first one", change("a5(t=t);a6(t=t)", 0, "40"), 5);
        due.is("the second one", change("a5(t=1);a6(t=t)", 0, "40"), 6);
        due.is("the last one", change("a5(t=1);a6(t=1);a7(t=0)", 0, "40"), 7);
        due.is("none", change("a5(t=1);a6(t=1);a7(t=1)", 0, "40"), 0);
        due.is("one of 0 is the first, too", change("a0(t=t);a6(t=t)", 0, "40"), 0);
        due.is("one below 0 is the first, too", change("a0-5(t=t);a6(t=t)", 0, "40"), 0);
        due.is("one that is refused is the first, too", change("a5/0(t=t);a6(t=t)", 0, "40"), 0);
        due.is("other letters between", change("h5(t=t);z7(t=t);a6(t=t);a8(t=t)", 0, "40"), 6);
        due.is("the twelfth", change("a1(t=1);".repeat(11) + "a12(t=t)", 0, "40"), 12);
        ClothPull x = on("b999(t=t);" + "a1(t=1);".repeat(12) + "a4(t=0)", "40");
        due.is("the fourteenth", x.still(1), 4 + 3 + 2 + 1);
    }

    private static void holds(String c, boolean wanted) {
        due.is("(" + c + ")", change("a7(" + c + ")", 0, "40"), wanted ? 7 : 0);
    }

    private static void comparisons() {
        int[] values = {0, 1, 2, 99998, 99999};
        for (int a : values) {
            for (int b : values) {
                holds(a + "<" + b, a < b);
                holds(a + ">" + b, a > b);
                holds(a + "=" + b, a == b);
                holds("!" + a + "<" + b, a >= b);
                holds("!" + a + ">" + b, a <= b);
                holds("!" + a + "=" + b, a != b);
                holds("!!" + a + "<" + b, a < b);
                holds("!!" + a + ">" + b, a > b);
                holds("!!" + a + "=" + b, a == b);
                holds("[0-" + a + "]<[0-" + b + "]", -a < -b);
                holds("[0-" + a + "]>" + b, -a > b);
            }
        }
        String[] bits = {"1=2", "1=1"};
        for (int k = 0; k < 8; k++) {
            String p = bits[k & 1], q = bits[k >> 1 & 1], r = bits[k >> 2 & 1];
            boolean a = (k & 1) == 1, b = (k & 2) == 2, c = (k & 4) == 4;
            holds(p + "|" + q + "&" + r, a || b && c);
            holds(p + "&" + q + "|" + r, a && b || c);
            holds("(" + p + "|" + q + ")&" + r, (a || b) && c);
            holds(p + "&(" + q + "|" + r + ")", a && (b || c));
            holds("!" + p + "&" + q + "|!" + r, !a && b || !c);
            holds("!(" + p + "|" + q + ")|" + r, !(a || b) || c);
            holds("!(" + p + "&" + q + ")&!!" + r, !(a && b) && c);
            holds(p + "|" + q + "|" + r, a || b || c);
            holds(p + "&" + q + "&" + r, a && b && c);
        }
    }

    /** 32 bits, as the machine does. */
    private static void thirtyTwoBits() {
        holds("[32768*65535+32767]>0", true);
        holds("[32768*65535+32767+1]<0", true);
        holds("[32768*65535+32767+1]=[0-32768*65536]", true);
        holds("32768*65536<0", true);
        holds("32768*65536-1>0", true);
        holds("65536*65536=0", true);
        holds("65536*65536+5=5", true);
        holds("99999*99999=14098*99999+99999+80567", 99999 * 99999 == 14098 * 99999 + 99999 + 80567);
        holds("99999*99999<0", 99999 * 99999 < 0);
        holds("99999*99999*99999<0", 99999 * 99999 * 99999 < 0);
        holds("32768*65536/[0-1]<0", true);
        holds("32768*65536/[0-1]=32768*65536", true);
        holds("32768*65536%[0-1]=0", true);
        holds("0-32768*65536<0", true);
        holds("[0-7]/2=[0-3]", true);
        holds("[0-7]%2=[0-1]", true);
        holds("7/[0-2]=[0-3]", true);
        holds("7%[0-2]=1", true);
        holds("[0-7]/[0-2]=3", true);
        holds("[0-7]%[0-2]=[0-1]", true);
        holds("[0-1]/2=0", true);
        holds("99999/99999=1", true);
        holds("99998/99999=0", true);
        holds("99999%99999=0", true);
        holds("99998%99999=99998", true);
        // An amount that is wrapped around is taken as it is then: below 0, or in the bounds.
        due.is("an a that is wrapped around to 5", change("a65536*65536+5(t=t)", 0, "40"), 5);
        due.is("an a that is wrapped around below 0", change("a32768*65536(t=t)", 0, "40"), 0);
        due.is("an a that is the most", change("a32768*65535+32767(t=t)", 0, "40"), 40);
        due.is("an a that is one more", change("a32768*65535+32768(t=t)", 0, "40"), 0);
    }

    private static void leftToRight() {
        String[] amounts = {"20-5-3", "20-5+3", "20+5-3", "40/4/2", "40/4*2", "5*7/2", "7/2*5", "17%7*2", "2*17%7", "39%20%7", "2+3*4", "20-3*4", "3*4-2", "2*3+4*5", "30-6/2", "30-7%4", "[2+3]*4", "20/[7-2]", "[[20]]-[[5]-3]"};
        int[] wanted = {12, 18, 22, 5, 20, 17, 15, 6, 6, 5, 14, 8, 10, 26, 27, 27, 20, 4, 18};
        for (int i = 0; i < amounts.length; i++) due.is("a" + amounts[i], change("a" + amounts[i] + "(t=t)", 0, "40"), wanted[i]);
    }

    private static void refusedAmounts() {
        for (String e : new String[] {"7/0", "7%0", "0/0", "0%0", "7+1/0", "1/0+7", "7+1%0", "7*[1/0]", "7+[1/[2-2]]", "7/[t-t]", "7/[1/2]", "7%[1%1]", "1/0*0+7", "[1/0]*0+7", "7+5/u", "7+5%r"})
            due.is("a" + e, change("a" + e + "(t=t)", 0, "40"), 0);
        for (String e : new String[] {"7/1", "7+0/1", "7+0%1", "7/[0-1]+14", "7+5/40", "7+[0/5]", "7+0/99999"})
            due.is("a" + e, change("a" + e + "(t=t)", 0, "40"), 7);
        due.is("0 of h", on("h9/0(t=t)", "40").tried(3), 160);
        due.is("0 of j", change("j9/0(t=t)", 0, "40"), 0);
    }

    private static void refusedConditions() {
        for (String c : new String[] {"1/0=0", "0=1/0", "1%0=0", "!1/0=0", "!!1/0=0", "(1/0=0)", "!(1/0=0)", "1/0=0|1=1", "(1/0=0)|1=1", "(1/0=0|1=1)|1=1", "!(1/0=0)|1=1",
            "1=1&1/0=0", "1=1&1/0=0|1=1", "1=2|1/0=0", "1=2|1/0=0|1=1", "!(1=1&!1/0=0)", "((1=2|(!(0>1/0)))|1=1)", "[1/0]=[1/0]", "1=1&(1=1&(1=1&1/0>5))|1=1", "0*[1/0]=0", "1=1/[1/2]"})
            holds(c, false);
        due.is("then the next one is asked", change("a5(1/0=0|1=1);a6(t=t)", 0, "40"), 6);
        due.is("a refused E of a C that does not hold is not asked", change("a5/0(1=2);a6(t=t)", 0, "40"), 6);
    }

    private static void asMuchAsMatters() {
        for (String c : new String[] {"1=1|1/0=0", "1=1|1=2&1/0=0", "1=2&1/0=0|1=1", "1=2&1/0=0&1=1|1=1", "1=2|1=1|1/0=0", "!(1=2&1/0=0)", "!(1=2&(1/0=0|1=1))", "(1=1|1/0=0)&1=1",
            "(1=2&1/0=0)|1=1", "1=2&(1/0=0)|(1=1|1%0=0)", "!1=2|1/0=0", "1=1|!1/0=0"})
            holds(c, true);
        for (String c : new String[] {"1=2&1/0=0", "1=2&1/0=0|1=2", "!(1=1|1/0=0)", "(1=2&1/0=0)&1=1", "!1=1&1/0=0"}) {
            holds(c, false);
            // It is not refused: turned around it holds.
            holds("!(" + c + ")", true);
        }
        // A piece is asked as a whole: both of its E.
        holds("1/0=0&1=2|1=1", false);
        holds("1=2/0|1=1", false);
    }

    /** In which tick the law lets it fall: with a tilt of 1 in each tick. */
    private static void ticksAndPaces() {
        for (int t = 0; t < 12; t++) {
            ClothPull x = on("a1(t=t);b0(t=" + t + ");b999(t=t)", "10*9,10");
            due.is("falls in tick " + t, x.still(4), 1);
            if (t < 10) due.is("by tick " + t + " it went", x.still(1), t * (t + 1) / 2);
        }
        // Behind the pull the pace told is 0: there it slows down on the cloth, by 1.
        for (int p = 0; p < 3; p++) {
            ClothPull x = on("a9(t=t);b0(p=" + p + "&t>0);b999(t=t)", "2*2");
            due.is("a pace of " + p + " behind the first tick", x.still(4), p == 0 ? 1 : 0);
            due.is("it went by " + p, x.still(1), p == 0 ? 2 + 2 : 2 + 2 + 1);
        }
        // A pace of the pull that is 0 is 0, too; the tick goes on behind the pull.
        for (int t = 0; t < 5; t++) {
            ClothPull x = on("a9(t=t);b0(t=" + t + "&t>0);b999(t=t)", "4");
            due.is("tick " + t + " behind the pull", x.still(4), t > 0 && t < 5 ? 1 : 0);
        }
        due.is("p in h", on("hp-5(t=t)", "9").tried(3), 195);
        due.is("t in h", on("ht*3(t=t)", "9*3").tried(3), 200 - 9 - 6 - 3);
    }

    private static void drawsInTheHandAlone() {
        for (int seed = 0; seed < 40; seed++) {
            ClothPull x = on("hr(t=t);a5(r=0);b999(t=t)", "40,40");
            x.seed(seed);
            long one = (25173L * seed + 13849) % 65536;
            long two = (25173L * one + 13849) % 65536;
            due.is("r in h by seed " + seed, x.tried(3), 200 - 80 + one % 10 + two % 10);
            due.is("r else by seed " + seed, x.tried(20) > 0, true);
            due.is("r without slips", x.still(20) > 0, true);
        }
        // Without slips h is not asked at all.
        due.is("h that is 5 by any draw, without slips", on("h5(t=t)", "9").still(3), 191);
    }

    /** What is told of a thing and of the cloth is 0 in h, also behind a tick in which things were asked. */
    private static void thingsNotInTheHand() {
        for (String letter : new String[] {"i", "k", "x", "f", "g", "w", "l", "u", "c"}) {
            ClothPull x = new ClothPull();
            x.table(200, 0);
            Due.law(x, "h" + letter + "(t=t);a9(t=t);b999(t=t);z99(t=t)");
            Due.pull(x, "10*3");
            x.thing(5, 3, 100, 7, 1, 50);
            x.more(5, 4, 6, 0);
            due.is(letter + " in h", x.tried(3), 170);
            due.is(letter + " in h for all that", x.tried(20 + 5) > 20, true);
        }
    }

    /** How a thing (5, candlestick, at 100, foot 7, weight 50, wet 4, filled 6) is told in the tick. */
    private static void told(String letter, int tick, int wanted) {
        for (int v = wanted - 1; v <= wanted + 1; v++) {
            if (v < 0) continue;
            ClothPull x = new ClothPull();
            x.table(200, 0);
            due.is("law", Due.law(x, "a5(t=t);z0(t=0);z99(t=t);b0(" + letter + "=" + v + "&t=" + tick + ");b999(t=t)"), 5);
            Due.pull(x, "10*2,11");
            x.thing(5, 3, 100, 7, 7, 50);
            x.more(5, 4, 6, 0);
            due.is(letter + " is " + v + " in tick " + tick, x.still(4), v == wanted ? 32 : 0);
        }
    }

    private static void whatIsToldOfAThing() {
        int[] places = {100, 95, 85};
        int[] filled = {6, 5, 5};
        int[] speeds = {0, 5, 10};
        int[] quick = {10, 10, 11};
        for (int t = 0; t < 3; t++) {
            told("t", t, t);
            told("p", t, quick[t]);
            told("r", t, 0);
            told("i", t, 5);
            told("k", t, 3);
            told("x", t, places[t]);
            told("f", t, 7);
            told("g", t, 50);
            told("w", t, 4);
            told("l", t, filled[t]);
            told("u", t, speeds[t]);
            told("c", t, quick[t]);
        }
        // Behind the pull: the cloth rests.
        told("c", 3, 0);
        told("p", 3, 0);
        told("u", 3, 11);
        told("x", 3, 74);
        // The cloth is as quick as the pace less the slip.
        ClothPull x = new ClothPull();
        Due.law(x, "h3(t=t);a9(t=t);b0(c=6&p=9);b99(t=t)");
        Due.pull(x, "9");
        x.thing(0, 0, 50, 1, 1, 1);
        due.is("c behind a slip", x.tried(4), 1);
        due.is("c without a slip", x.still(4), 0);
    }

    /** Dragged, thus fallen, if the letter is told as that, and not if it is told as one beside it. */
    private static void toldAt(char letter, int value, int... thing) {
        for (int v = Math.max(0, value - 1); v <= value + 1; v++) {
            ClothPull x = new ClothPull();
            x.table(200, 0);
            Due.law(x, "a1(" + letter + "=" + v + ")");
            Due.pull(x, "1");
            due.is("a thing", x.thing(thing[0], thing[1], thing[2], thing[3], 60, thing[4]), true);
            x.more(thing[0], thing[5], thing[6], 999);
            due.is(letter + " of " + value + " as " + v, x.still(4), v == value ? 1 << thing[0] : 0);
        }
    }

    private static void whatIsToldAtItsBounds() {
        for (int i = 0; i <= 9; i++) toldAt('i', i, i, 3, 50, 20, 50, 5, 5);
        for (int k = 0; k <= 3; k++) toldAt('k', k, 9, k, 50, 20, 50, 5, 5);
        for (int place : new int[] {0, 1, 50, 197, 198}) toldAt('x', place, 9, 3, place, 20, 50, 5, 5);
        for (int foot : new int[] {1, 2, 39, 40}) toldAt('f', foot, 9, 3, 50, foot, 50, 5, 5);
        for (int weight : new int[] {1, 2, 98, 99}) toldAt('g', weight, 9, 3, 50, 20, weight, 5, 5);
        for (int wet = 0; wet <= 9; wet++) toldAt('w', wet, 9, 3, 50, 20, 50, wet, 5);
        for (int filled = 0; filled <= 9; filled++) toldAt('l', filled, 9, 3, 50, 20, 50, 5, filled);
        // At 199 the pull of an inch leaves no cloth; a thing on wood is told as well: how quick it was there.
        ClothPull x = new ClothPull();
        x.table(200, 0);
        Due.law(x, "a1(t=t)");
        Due.pull(x, "1");
        x.thing(0, 0, 199, 1, 60, 1);
        due.is("at 199 it rests", x.still(4), 0);
        for (int u = 8; u <= 10; u++) {
            x = new ClothPull();
            x.table(200, 0);
            Due.law(x, "a9(t=t);s9(t=t);b0(x=91&u=" + u + "&c=40);b999(t=t)");
            Due.pull(x, "9,40");
            x.cloth(110);
            x.thing(0, 0, 100, 1, 1, 1);
            due.is("on wood, a speed of 9 as " + u, x.still(4), u == 9 ? 1 : 0);
        }
    }
}
