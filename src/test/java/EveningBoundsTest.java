/** The bounds of an evening: its ticks, and from which number on a thing goes, falls, rocks, spills, touches, is over. */
public final class EveningBoundsTest {
    private static final Due due = new Due();

    public static void main(String[] args) {
        ticks();
        ends();
        beneath();
        onCloth();
        foldsPass();
        foldsAndSlips();
        jerks();
        onWood();
        tilts();
        fallen();
        rocked();
        spilt();
        over();
        touchesOfTwo();
        touchesByNumbers();
        touchesByNumbersLater();
        touchesOneAfterTheOther();
        whoDoesNotTouch();
        ledTo();
        eachThingIsTold();
        doneChanges();
        doneDraws();
        due.end();
    }

    private static ClothPull with(int length, int folds, String law, String pull) {
        ClothPull x = new ClothPull();
        x.table(length, folds);
        due.is("law " + law, Due.law(x, law) > 0, true);
        due.is("pull " + pull, Due.pull(x, pull) > 0, true);
        return x;
    }

    private static String pullOf(int ticks, int pace) {
        StringBuilder s = new StringBuilder();
        for (int left = ticks; left > 0; left -= 9) {
            s.append(s.length() > 0 ? "," : "").append(pace);
            if (left > 1) s.append('*').append(Math.min(left, 9));
        }
        return s.toString();
    }

    private static void ticks() {
        for (int n = 1; n <= 60; n++) {
            ClothPull x = with(200, 0, "a40(t=t);b999(t=t)", pullOf(n, 3));
            due.is("ticks of nothing", x.still(2), n);
            due.is("ticks of nothing, tried", x.tried(2), n);
            x.thing(0, 0, 199, 1, 1, 1);
            due.is("ticks of one on wood", x.still(2), n);
            x.thing(0, 0, 196, 1, 1, 1);
            due.is("ticks of one that is dragged: 3 to slow down, and one to see", n < 2 ? x.still(2) : 4, 4);
        }
        ClothPull x = new ClothPull();
        x.thing(0, 0, 50, 1, 60, 1);
        due.is("no pull, no tick", x.still(2), 0);
        due.is("no pull, no tick, tried", x.tried(2), 0);
        due.is("no pull: it stands", x.still(0), 1);
        due.is("no pull: its place", x.still(10), 50);
        for (int k = 0; k < 4; k++) {
            due.is("evenings of many ticks", k == 0 ? x.pace() : k == 1 ? x.best(0) : k == 2 ? x.most(0) : x.put(3, 10), k < 3 ? 1 : -1);
            due.is("no pull, no tick yet", x.still(2), 0);
            due.is("no pull, no tick yet, tried", x.tried(2), 0);
        }
        // By v inches in the last tick it slows down in v ticks more: the last one ends it.
        for (int v = 1; v <= 18; v++) {
            x = with(200, 0, "a40(t=t);b999(t=t)", "" + v);
            x.thing(0, 0, 199 - v, 1, 1, 1);
            due.is("ticks behind a pull of " + v, x.still(2), v + 1);
            due.is("inches behind a pull of " + v, x.still(1), v * (v + 1) / 2);
            due.is("it stands", x.still(0), 1);
        }
        x = with(200, 0, "a40(t=t);b999(t=t)", pullOf(59, 0) + ",18");
        x.thing(0, 0, 180, 1, 1, 1);
        due.is("ticks behind sixty", x.still(2), 78);
        // One that is over does not move: its tick is the last one.
        x = with(200, 0, "a40(t=t);b999(t=t)", "9");
        x.thing(0, 0, 8, 1, 1, 1);
        due.is("over in the first tick", x.still(2), 1);
        x.thing(0, 0, 9, 1, 1, 1);
        due.is("over in the second tick", x.still(2), 2);
        x.thing(1, 0, 100, 1, 1, 1);
        due.is("another one moves on", x.still(2), 10);
        x = with(200, 0, "a40(t=t);b0(t=1);b999(t=t)", "9");
        x.thing(0, 0, 100, 1, 1, 1);
        due.is("one that fell does not move", x.still(2), 2);
        due.is("it went the first tick alone", x.still(1), 9);
    }

    private static void ends() {
        int[][] rows = {{0, 5, 0}, {1, 5, 0}, {4, 5, 0}, {5, 5, 0}, {6, 5, 1}, {7, 5, 2}, {200, 40, 160}, {40, 40, 0}, {41, 40, 1}, {39, 40, 0}, {10, 0, 10}, {1, 1, 0}};
        for (int[] r : rows) {
            ClothPull x = with(200, 0, "a1(t=t)", "" + r[1]);
            x.cloth(r[0]);
            due.is("the end of " + r[0] + " by " + r[1], x.still(3), r[2]);
            due.is("the end of " + r[0] + " by " + r[1] + ", tried", x.tried(3), r[2]);
            due.is("nothing is changed", x.count(1), r[0]);
            x.done();
            due.is("then it is", x.count(1), r[2]);
        }
        ClothPull x = with(200, 0, "a1(t=t)", pullOf(60, 3));
        due.is("sixty ticks", x.still(3), 20);
        x = with(200, 0, "a1(t=t)", pullOf(60, 4));
        due.is("sixty ticks, over the edge", x.still(3), 0);
    }

    /** Cloth is beneath a thing if its place is below the end behind the pull of this tick. */
    private static void beneath() {
        for (int end = 20; end <= 60; end += 20) {
            for (int place = end - 3; place <= end + 3; place++) {
                ClothPull x = with(200, 0, "a1(t=0);b999(t=t)", "10");
                x.cloth(end + 10);
                x.thing(0, 0, place, 1, 1, 1);
                due.is("at " + place + " by an end of " + end, x.still(30), place < end ? 1 : 0);
                due.is("at " + place + " by an end of " + end + ", wood", x.still(40), 0);
            }
        }
        ClothPull x = with(200, 0, "a1(t=t);b999(t=t)", "0");
        x.cloth(1);
        x.thing(0, 0, 0, 1, 1, 1);
        due.is("a cloth that rests drags none", x.still(1), 0);
        x = with(200, 0, "a1(t=t);b999(t=t)", "1");
        x.cloth(2);
        x.thing(0, 0, 0, 1, 1, 1);
        due.is("at 0 by an end of 1", x.still(30), 1);
        due.is("at 0 it is over then", x.still(5), 1);
        x.cloth(1);
        due.is("at 0 by an end of 0", x.still(1), 0);
        x.cloth(0);
        due.is("at 0 without a cloth", x.still(1), 0);
    }

    private static void onCloth(String a, String pull, int inches, int ticks) {
        ClothPull x = with(200, 0, "a" + a + "(t=t);b999(t=t)", pull);
        x.thing(0, 0, 100, 1, 1, 1);
        due.is("inches by " + pull + " and a of " + a, x.still(30), inches);
        due.is("ticks by " + pull + " and a of " + a, x.still(2), ticks);
    }

    private static void onCloth() {
        onCloth("40", "5,4", 5 + 4 + 3 + 2 + 1, 6);
        onCloth("40", "5,5", 5 + 5 + 4 + 3 + 2 + 1, 7);
        onCloth("40", "5,6", 5 + 6 + 5 + 4 + 3 + 2 + 1, 8);
        onCloth("40", "5,3", 5 + 4 + 3 + 2 + 1, 6);
        onCloth("40", "5,0", 5 + 4 + 3 + 2 + 1, 6);
        onCloth("3", "5,40", 3 + 6 + 5 + 4 + 3 + 2 + 1, 8);
        onCloth("3", "5,6", 3 + 6 + 5 + 4 + 3 + 2 + 1, 8);
        onCloth("3", "5,5", 3 + 5 + 4 + 3 + 2 + 1, 7);
        onCloth("3", "5,4", 3 + 4 + 3 + 2 + 1, 6);
        onCloth("3", "5,3", 3 + 3 + 2 + 1, 5);
        onCloth("3", "5,2", 3 + 2 + 1, 4);
        onCloth("3", "3,3,3", 3 + 3 + 3 + 2 + 1, 6);
        onCloth("3", "2", 2 + 1, 3);
        onCloth("2", "2", 2 + 1, 3);
        onCloth("1", "2", 1, 2);
        onCloth("0", "5", 0, 1);
        onCloth("0-1", "5", 0, 1);
        onCloth("5", "0", 0, 1);
        onCloth("5", "0,0,0", 0, 3);
        onCloth("5", "0,1", 1, 3);
        onCloth("1", "1", 1, 2);
    }

    /** Fold 3 of 60 lies at 30; the cloth goes 4 and then 6: it comes to 26 and to 20. */
    private static void foldsPass() {
        for (int place = 15; place <= 40; place++) {
            ClothPull x = with(60, 8, "j1(t=t);b999(t=t)", "4,6");
            x.thing(0, 0, place, 1, 1, 1);
            int inches = place >= 28 && place <= 30 ? 2 : place == 27 ? 1 + 2 + 1 : place >= 21 && place <= 26 ? 1 : 0;
            due.is("a thing at " + place + " by a fold", x.still(30), inches);
        }
        ClothPull x = with(60, 8, "j1(t=t);b999(t=t)", "0,0");
        x.thing(0, 0, 30, 1, 1, 1);
        due.is("a fold that rests passes none", x.still(1), 0);
        x = with(60, 8, "j1(t=t);b999(t=t)", "0,1");
        x.thing(0, 0, 30, 1, 1, 1);
        due.is("it passes by the first inch", x.still(1), 1);
        // Fold 0 passes a thing at the edge; it is jerked over.
        x = with(60, 1, "j1(t=t);b999(t=t)", "1");
        x.thing(0, 0, 0, 1, 1, 1);
        due.is("fold 0 at the edge", x.still(5), 1);
        x.thing(0, 0, 1, 1, 1, 1);
        due.is("fold 0 is below 1", x.still(5) + x.still(1), 0);
        // Two folds in one tick jerk once, in two ticks twice.
        x = with(60, 12, "j1(t=t);b999(t=t)", "21");
        x.thing(0, 0, 20, 1, 1, 1);
        due.is("folds 2 and 3 in one tick", x.still(1), 1);
        x = with(60, 12, "j1(t=t);b999(t=t)", "1,20");
        x.thing(0, 0, 20, 1, 1, 1);
        due.is("folds 2 and 3 in two ticks", x.still(1), 1 + 2 + 1);
    }

    private static void foldsAndSlips() {
        for (int h = 0; h <= 5; h++) {
            for (int place = 24; place <= 31; place++) {
                ClothPull x = with(60, 8, "h" + h + "(t=t);j1(t=t);b999(t=t)", "5");
                x.thing(0, 0, place, 1, 1, 1);
                due.is("a fold that goes 5 less " + h + " by " + place, x.tried(1), place <= 30 && place > 30 - 5 + h ? 1 : 0);
                due.is("it goes 5 by " + place, x.still(1), place <= 30 && place > 25 ? 1 : 0);
            }
        }
        // All that the cloth has gone, less the slips: 5 - 2 and 5: from 30 to 27 and to 22.
        for (int place = 20; place <= 27; place++) {
            ClothPull x = with(60, 8, "h2(t=0);j1(t=t);b999(t=t)", "5,5");
            x.thing(0, 0, place, 1, 1, 1);
            due.is("behind a slip, by " + place, x.tried(1), place > 22 ? 1 : 0);
        }
    }

    private static void jerks() {
        // Not quicker than the cloth by a, but by j: 5 and 3, then one less each tick.
        ClothPull x = with(200, 8, "a9(t=t);j3(t=t);b999(t=t)", "5");
        x.thing(0, 0, 100, 1, 1, 1);
        due.is("a and j", x.still(1), 8 * 9 / 2);
        // Quicker than the cloth: one less, then j more: 5, then 4 + 3.
        x = with(200, 8, "a5(t=t);j3(t=1);b999(t=t)", "5,2");
        x.thing(0, 0, 99, 1, 1, 1);
        due.is("one less and j", x.still(1), 5 + 7 * 8 / 2);
        // As quick as the cloth: j alone.
        x = with(200, 8, "a5(t=t);j3(t=1);b999(t=t)", "5,5");
        x.thing(0, 0, 99, 1, 1, 1);
        due.is("as quick as the cloth, and j", x.still(1), 5 + 8 * 9 / 2);
        // A fold that comes to wood in the tick in which it would pass jerks not.
        x = with(60, 8, "j7(t=t);b999(t=t)", "5");
        x.thing(0, 0, 30, 1, 1, 1);
        x.cloth(36);
        due.is("a fold beneath the last of the cloth", x.still(1), 28);
        x.cloth(35);
        due.is("a fold beneath a thing on wood", x.still(1), 0);
        x = with(60, 8, "j7(t=t);b6(t=t)", "5");
        x.thing(0, 0, 30, 1, 1, 1);
        due.is("it falls by the jerk", x.still(4), 1);
        due.is("it does not go by it", x.still(1), 0);
    }

    /** Speed v to wood at once: what it changes there is what it has at most. */
    private static void onWood() {
        for (int v = 1; v <= 6; v++) {
            for (int s = 1; s <= 8; s++) {
                ClothPull x = with(200, 0, "a" + v + "(t=t);s" + s + "(t=t);b999(t=t)", v + ",40,40");
                x.cloth(100 + v + 1);
                x.thing(0, 0, 100, 1, 1, 1);
                int way = 0;
                for (int left = v - s; left > 0; left -= s) way += left;
                due.is("from " + v + " by " + s, x.still(40), way);
                due.is("on cloth " + v, x.still(30), v);
                // Its tilt there is the change, without sign: what it had at most.
                int change = Math.min(v, s);
                for (int b = change - 1; b <= change; b++) {
                    ClothPull y = with(200, 0, "a" + v + "(t=t);s" + s + "(t=t);b" + b + "(t=1);b999(t=t)", v + ",40,40");
                    y.cloth(100 + v + 1);
                    y.thing(0, 0, 100, 1, 1, 1);
                    due.is("a change of " + change + " by a b of " + b, y.still(4), b < change ? 1 : 0);
                }
            }
        }
        ClothPull x = with(200, 0, "s9(t=t)", "5");
        x.cloth(0);
        x.thing(0, 0, 100, 1, 60, 1);
        due.is("at rest on wood nothing changes", x.still(4) + x.still(1), 0);
    }

    /** The tilt is the change times the height through the foot, rounded down: above b it falls, above half of b it rocks. */
    private static void tilts() {
        int[] heights = {1, 2, 5, 9, 10, 11, 59, 60};
        int[] feet = {1, 2, 3, 7, 10, 39, 40};
        for (int change = 1; change <= 5; change += 2) {
            for (int h : heights) {
                for (int f : feet) {
                    int tilt = change * h / f;
                    for (int b : new int[] {tilt - 1, tilt, tilt + 1, 2 * tilt - 1, 2 * tilt, 2 * tilt + 1, 2 * tilt + 2}) {
                        if (b < 0) continue;
                        ClothPull x = with(200, 0, "a" + change + "(t=0);b" + b + "(t=0);b999(t=t)", "20,40*3");
                        x.cloth(101);
                        x.thing(3, 0, 80, f, h, 1);
                        String name = "a tilt of " + change + " * " + h + " / " + f + " by a b of " + b;
                        due.is(name + ": falls", x.still(4), tilt > b ? 8 : 0);
                        // Behind the first tick it slows down on wood by 1, below half of 999.
                        due.is(name + ": rocks", x.still(6), tilt <= b && tilt > b / 2 ? 8 : 0);
                        due.is(name + ": goes", x.still(20 + 3) > 0, tilt <= b);
                    }
                }
            }
        }
    }

    private static void fallen() {
        ClothPull x = with(200, 0, "a5(t=t);b0(i=1&t=1);b999(t=t)", "5*3");
        x.thing(0, 0, 100, 1, 1, 1);
        x.thing(1, 0, 50, 1, 1, 1);
        // Without a change in the second tick nothing falls; in it both are as quick as the cloth.
        due.is("no change, no fall", x.still(4), 0);
        x = with(200, 0, "a5(t=t);b0(i=1&t=1);b999(t=t)", "5,6,6");
        x.thing(0, 0, 100, 1, 1, 1);
        x.thing(1, 0, 50, 1, 1, 1);
        due.is("one falls in the second tick", x.still(4), 2);
        due.is("it lies where it was", x.still(11), 45);
        due.is("it went 5", x.still(21), 5);
        due.is("the other one stands", x.still(0), 1);
        due.is("none is over", x.still(5), 0);
        // A fallen one at the edge does not go over; it lies at 0, and spills in its tick alone.
        x = with(200, 0, "a5(t=t);b0(t=t);z0(t=t)", "5*3");
        x.thing(0, 0, 0, 1, 1, 1);
        x.more(0, 0, 9, 0);
        due.is("fallen at the edge", x.still(4), 1);
        due.is("it is not over", x.still(5), 0);
        due.is("its place", x.still(10), 0);
        due.is("it spills as it falls", x.still(60), 8);
        due.is("it has spilt", x.still(8), 1);
        due.is("it does not rock as it falls", x.still(6), 0);
        due.is("the ticks of the pull", x.still(2), 3);
        due.is("none stands", x.still(0), 0);
    }

    private static void rocked() {
        for (int b = 0; b <= 9; b++) {
            for (int tilt = 0; tilt <= b; tilt++) {
                ClothPull x = with(200, 0, "a" + tilt + "(t=0);b" + b + "(t=0);b999(t=t)", "9");
                x.thing(9, 0, 150, 1, 1, 1);
                due.is("a tilt of " + tilt + " by a b of " + b, x.still(6), tilt > b / 2 ? 512 : 0);
                due.is("it stands", x.still(0), 1);
            }
        }
        // What rocked stays told, though it falls later, or goes over.
        ClothPull x = with(200, 0, "a2(t=0);a9(t=1);b2(t=0);b3(t=1)", "2,9");
        x.thing(0, 0, 150, 1, 1, 1);
        due.is("rocks, then falls", x.still(6) * 10 + x.still(4), 11);
        x = with(200, 0, "a2(t=t);b2(t=t)", "2,2");
        x.thing(0, 0, 3, 1, 1, 1);
        due.is("rocks, then is over", x.still(6) * 10 + x.still(5), 11);
    }

    private static void spilt() {
        for (int filled = 0; filled <= 9; filled++) {
            for (int z = 0; z <= 3; z++) {
                // Changes of 2 (in one tick), then of 1 in two ticks.
                ClothPull x = with(200, 0, "a2(t=t);b999(t=t);z" + z + "(t=t)", "2");
                x.thing(4, 0, 150, 1, 1, 1);
                x.more(4, 0, filled, 0);
                int spills = Math.min(filled, z == 0 ? 3 : z == 1 ? 1 : 0);
                due.is("filled " + filled + ", z " + z, x.still(64), filled - spills);
                due.is("spilt of " + filled + ", z " + z, x.still(8), spills > 0 ? 16 : 0);
                due.is("tried, too", x.tried(64), filled - spills);
                due.is("nothing is changed", x.thingIs(4, 6), filled);
                x.done();
                due.is("then it is", x.thingIs(4, 6), filled - spills);
            }
        }
    }

    private static void over() {
        for (int place = 0; place <= 8; place++) {
            // Five inches, then wood, on which it rests at once.
            ClothPull x = with(200, 0, "a5(t=t);s40(t=t);b999(t=t)", "5,40");
            x.cloth(14);
            x.thing(7, 0, place, 1, 1, 1);
            due.is("over from " + place, x.still(5), place < 5 ? 128 : 0);
            due.is("its place from " + place, x.still(17), place < 5 ? -1 : place - 5);
            due.is("its inches from " + place, x.still(27), 5);
            due.is("standing from " + place, x.still(0), place < 5 ? 0 : 1);
            due.is("not fallen from " + place, x.still(4), 0);
        }
        ClothPull x = with(200, 0, "a40(t=t);b999(t=t)", "40");
        x.thing(0, 0, 0, 1, 1, 1);
        due.is("all the inches behind the edge", x.still(30), 40);
        due.is("behind the edge it is over for good", x.still(20), 40);
    }

    /** By how much behind one tick: things of feet f0 and f1, g0 and g1, the one in front by v0, the one behind by v1. */
    private static ClothPull pushed(int apart, int f0, int f1, int g0, int g1, int v0, int v1, int b) {
        // The first tick drags; in the second one both are on wood and rest at once: what they had then is their tilt.
        ClothPull x = with(200, 0, "a" + v0 + "(k=0);a" + v1 + "(k=1);s40(t=t);b" + b + "(t=1);b999(t=t)", "40,40");
        x.cloth(152);
        x.thing(0, 0, 100, f0, f0, g0);
        x.thing(1, 1, 100 + apart, f1, f1, g1);
        return x;
    }

    private static void touchesOfTwo() {
        int[][] feet = {{1, 1}, {1, 2}, {2, 2}, {5, 6}, {6, 6}, {1, 11}, {9, 10}};
        int[][] weights = {{1, 1}, {1, 99}, {99, 1}, {10, 30}};
        for (int[] f : feet) {
            for (int v0 = 0; v0 <= 4; v0 += 2) {
                for (int v1 = 0; v1 <= 7; v1++) {
                    for (int apart = 1; apart <= 11; apart++) {
                        int[] g = weights[(apart + v1) % 4];
                        touchOfTwo(apart, f[0], f[1], g[0], g[1], v0, v1);
                    }
                }
            }
        }
    }

    private static void touchOfTwo(int apart, int f0, int f1, int g0, int g1, int v0, int v1) {
        String name = "feet " + f0 + ", " + f1 + ", weights " + g0 + ", " + g1 + ", speeds " + v0 + ", " + v1 + ", " + apart + " apart";
        int near = (f0 + f1) / 2;
        int then = apart - v1 + v0;
        boolean touch = v1 > v0 && then >= 0 && then < near;
        ClothPull x = pushed(apart, f0, f1, g0, g1, v0, v1, 999);
        due.is(name + ": touched", x.still(7), touch ? 3 : 0);
        due.is(name + ": in front", x.still(10), 100 - v0);
        int behind = touch ? Math.min(100 - v0 + near, 100 + apart) : 100 + apart - v1;
        due.is(name + ": behind", x.still(11), behind);
        due.is(name + ": touching", x.still(51), touch ? 100 + apart - behind : 0);
        due.is(name + ": touching in front", x.still(50), touch ? v0 : 0);
        if (!touch) return;
        int speed = (v0 * g0 + v1 * g1) / (g0 + g1);
        due.is(name + ": both had the one speed", pushed(apart, f0, f1, g0, g1, v0, v1, speed).still(4), 0);
        if (speed > 0) due.is(name + ": both had no less", pushed(apart, f0, f1, g0, g1, v0, v1, speed - 1).still(4), 3);
    }

    private static void touchesByNumbers() {
        // Both come to 97: of like places the lower number is in front; only a quicker one behind touches.
        for (int k = 0; k < 4; k++) {
            int low = k & 1, high = 1 - low;
            ClothPull x = with(200, 0, "a3(k=0);a5(k=1);s40(t=t);b999(t=t)", "40,40");
            x.cloth(152);
            x.thing(k < 2 ? 2 : 7, low, low == 0 ? 100 : 102, 9, 9, 1);
            x.thing(k < 2 ? 7 : 2, high, high == 0 ? 100 : 102, 9, 9, 1);
            boolean quickOneIsBehind = k < 2 ? high == 1 : low == 1;
            due.is("of like places, " + k, x.still(7), quickOneIsBehind ? 132 : 0);
        }
    }

    /** Two that come to one place in the second tick: the lower number is in front then, whichever was ahead of it. */
    private static void touchesByNumbersLater() {
        for (int quickOne = 0; quickOne <= 1; quickOne++) {
            ClothPull x = with(200, 0, "a2(i=" + quickOne + "&t=0);s40(t=t);b999(t=t)", "2,1,40");
            x.cloth(150);
            x.thing(1 - quickOne, 0, 100, 1, 1, 1);
            x.thing(quickOne, 0, 103, 1, 1, 1);
            // To 101, then by 1 to 100: the quick one is behind only if its number is 1.
            due.is("of like places in the second tick, " + quickOne, x.still(7), quickOne == 1 ? 3 : 0);
        }
    }

    private static void touchesOneAfterTheOther() {
        // To 96, 101, 106, 111. The first two get (0 + 4) / 2, thing 1 is put back to 105, where it was;
        // the next two (2 + 9) / 2, thing 2 back to 115, where it was; the last two (5 + 12) / 2, thing 3 back to 123.
        ClothPull x = with(200, 0, "a4(i=1);a9(i=2);a12(i=3);s40(t=t);b999(t=t)", "40,40");
        x.cloth(165);
        int[] places = {96, 105, 115, 123};
        for (int i = 0; i < 4; i++) x.thing(i, 0, places[i], 10, 1, 1);
        due.is("all four touch", x.still(7), 15);
        for (int i = 0; i < 4; i++) due.is("place of " + i, x.still(10 + i), places[i]);
        due.is("none went an inch", x.still(1), 0);
        // The one in the middle is as quick as the one behind only after it has touched the one in front.
        x = with(200, 0, "a0(i=0);a6(t=0);s40(t=t);b999(t=t)", "40,40");
        x.cloth(152);
        x.thing(0, 0, 100, 4, 1, 1);
        x.thing(1, 0, 108, 4, 1, 1);
        x.thing(2, 0, 111, 4, 1, 1);
        due.is("the third by the second", x.still(7), 7);
        x.away(0);
        due.is("as quick ones do not touch", x.still(7), 0);
        due.is("they go 6", x.still(1), 12);
        // The one behind touches the middle one first, the middle one is not asked again for the one in front.
        x = with(200, 0, "a6(i=2);a0(t=0);s40(t=t);b999(t=t)", "40,40");
        x.cloth(152);
        x.thing(0, 0, 100, 4, 1, 1);
        x.thing(1, 0, 103, 4, 1, 1);
        x.thing(2, 0, 111, 4, 1, 1);
        due.is("only the last two", x.still(7), 6);
        due.is("the middle one is where it was", x.still(11), 103);
        due.is("the last one is put back to 4 behind it", x.still(12), 107);
    }

    private static void whoDoesNotTouch() {
        // One that fell lies in the way: it is not touched.
        ClothPull x = with(200, 0, "a5(k=1);a1(k=0);b0(k=0);b999(t=t)", "5");
        x.thing(0, 0, 100, 10, 10, 1);
        x.thing(1, 1, 105, 10, 10, 1);
        due.is("one fell", x.still(4), 1);
        due.is("none touched", x.still(7), 0);
        due.is("the other one goes through", x.still(11), 90);
        // One that goes over in this tick is not touched.
        x = with(200, 0, "a5(k=1);a1(k=0);b999(t=t)", "5");
        x.thing(0, 0, 0, 10, 10, 1);
        x.thing(1, 1, 5, 10, 10, 1);
        due.is("one is over", x.still(5) & 1, 1);
        due.is("none touched, either", x.still(7), 0);
        x.thing(0, 0, 1, 10, 10, 1);
        due.is("one at 0 is touched", x.still(7), 3);
        // Two that rest near each other do not touch.
        x = with(200, 0, "a5(k=1);b999(t=t)", "5");
        x.thing(0, 0, 100, 10, 10, 1);
        x.thing(1, 0, 101, 10, 10, 1);
        due.is("two at rest", x.still(7), 0);
    }

    /** Of a tick in which it touched all its inches are by touching, else by what was beneath it. */
    private static void ledTo() {
        // 5 on cloth to 95, then by wood 4, 3; the one in front at 90 (foot 4, near 4) is met at 92.
        ClothPull x = with(200, 0, "a5(k=1);s1(t=t);b999(t=t)", "5,40");
        x.cloth(106);
        x.thing(0, 0, 90, 4, 1, 50);
        x.thing(1, 1, 100, 4, 1, 50);
        // Tick 0 to 95; tick 1 by 4 to 91, nearer than 4: both 2, put back to 94.
        // Tick 2: both by 1, to 89 and 93; 4 apart.
        due.is("both touched", x.still(7), 3);
        due.is("on cloth behind", x.still(31), 5);
        due.is("touching behind", x.still(51), 1);
        due.is("on wood behind", x.still(41), 1);
        due.is("together behind", x.still(21), 7);
        due.is("touching in front", x.still(50), 0);
        due.is("on wood in front", x.still(40), 1);
        due.is("on cloth in front", x.still(30), 0);
        due.is("its place", x.still(11), 93);
        due.is("all together", x.still(1), 8);
    }

    private static void eachThingIsTold() {
        ClothPull x = with(200, 0, "a1(t=t);b999(t=t)", "1");
        x.cloth(0);
        for (int i = 0; i < 10; i++) {
            x.thing(i, 0, 20 * i, 1, 1, 1);
            x.more(i, 0, 9 - i, 0);
        }
        for (int i = 0; i < 10; i++) {
            due.is("place of " + i, x.still(10 + i), 20 * i);
            due.is("place of " + i + ", tried", x.tried(10 + i), 20 * i);
            for (int w = 20; w <= 50; w += 10) due.is("inches of " + i, x.still(w + i), 0);
            due.is("filled of " + i, x.still(60 + i), 9 - i);
            due.is("filled of " + i + ", tried", x.tried(60 + i), 9 - i);
        }
        due.is("still 9", x.still(9), -1);
        due.is("still 70", x.still(70), -1);
        due.is("tried 9", x.tried(9), -1);
        due.is("tried 70", x.tried(70), -1);
        for (int i = 0; i < 10; i++) {
            x.away(i);
            for (int w = 10; w <= 60; w += 10) {
                due.is("still of one that is away", x.still(w + i), -1);
                due.is("tried of one that is away", x.tried(w + i), -1);
            }
        }
    }

    private static void doneChanges() {
        ClothPull x = with(200, 9, "a5(t=t);s40(t=t);b4(k=2);b999(t=t);z4(t=t)", "5,40");
        x.cloth(150);
        x.thing(0, 0, 143, 3, 7, 11);
        x.more(0, 1, 2, 3);
        x.thing(1, 1, 4, 4, 8, 12);
        x.more(1, 4, 5, 6);
        x.thing(2, 2, 60, 1, 9, 13);
        x.more(2, 7, 8, 9);
        x.thing(3, 3, 160, 6, 10, 14);
        x.more(3, 9, 9, 999);
        due.is("done", x.done(), 2);
        int[][] wanted = {{0, 138, 3, 7, 11, 1, 0, 3}, {-1, -1, -1, -1, -1, -1, -1, -1}, {2, 60, 1, 1, 13, 7, 7, 9}, {3, 160, 6, 10, 14, 9, 9, 999}};
        for (int i = 0; i < 4; i++) for (int w = 0; w < 8; w++) due.is("thing " + i + ", " + w, x.thingIs(i, w), wanted[i][w]);
        due.is("the end", x.count(1), 105);
        due.is("the folds stay", x.count(2), 9);
        due.is("the length stays", x.count(0), 200);
        due.is("the pull stays", x.count(4), 2);
        due.is("the law stays", x.count(5), 5);
        due.is("things", x.count(3), 13);
        due.is("one that fell stands again: height 1, change 5", x.still(0), 2);
        due.is("and falls again", x.still(4), 4);
        due.is("one that is over is no thing", x.more(1, 0, 0, 0), false);
        due.is("nor can it be taken away", x.away(1), false);
        due.is("one fell: it can be told more", x.more(2, 0, 0, 0), true);
        due.is("done of all over", doneOf(0), 0);
        due.is("done of one", doneOf(199), 1);
        due.is("done without things", with(50, 0, "a1(t=t)", "5").done(), 0);
        due.is("done without a pull", new ClothPull().done(), -1);
    }

    private static int doneOf(int place) {
        ClothPull x = with(200, 0, "a5(t=t);b999(t=t)", "5");
        x.thing(0, 0, place, 1, 1, 1);
        return x.done();
    }

    private static void doneDraws() {
        for (int n = 1; n <= 60; n += n < 5 ? 1 : 11) {
            ClothPull x = with(200, 0, "hr(t=t);a40(t=t);b999(t=t)", pullOf(n, 3));
            long seed = 1;
            int end = 200;
            for (int t = 0; t < n; t++) {
                seed = (25173L * seed + 13849L) % 65536L;
                end = Math.max(0, end - Math.max(0, 3 - (int) (seed % 10)));
            }
            due.is("tried of " + n + " ticks", x.tried(3), end);
            x.done();
            due.is("X behind " + n + " ticks", x.count(7), seed);
            due.is("the end behind " + n + " ticks", x.count(1), end);
            due.is("the next evening by the next draws", x.tried(3) <= end, true);
        }
    }
}
