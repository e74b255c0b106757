import java.util.Map;

/** The bounds of the table, the cloth, the things, the tape, X, what is kept: each one step inside it and one outside. */
public final class TableBoundsTest {
    private static final int BIG = Integer.MAX_VALUE;
    private static final int SMALL = Integer.MIN_VALUE;
    private static final Due due = new Due();

    interface Asked { boolean of(ClothPull x, int value); }

    public static void main(String[] args) {
        aNewObject();
        tableLengths();
        tableFolds();
        foldPlaces();
        foldsAtTheEnd();
        clothEnds();
        thingBounds();
        thingsAreReplaced();
        moreBounds();
        awayAndAgain();
        tapeFills();
        seeds();
        draws();
        keptIsCopied();
        checks();
        counts();
        whatACallChanges();
        eachHasItsOwn();
        foldsAgain();
        due.end();
    }

    /** Each of the values on a new table of so many inches. */
    private static void all(String name, int length, Asked call, int low, int high) {
        for (int v : new int[] {low, low + 1, high - 1, high}) due.is(name + " " + v, call.of(on(length), v), true);
        int[] outside = {low - 1, high + 1, low - 2, high + 2, low - 256, high + 256, low + 65536, low - 65536, SMALL, SMALL + low, BIG};
        for (int v : outside) due.is(name + " " + v, call.of(on(length), v), false);
    }

    private static ClothPull on(int length) {
        ClothPull x = new ClothPull();
        x.table(length, 0);
        x.thing(3, 0, 1, 1, 1, 1);
        return x;
    }

    private static void aNewObject() {
        ClothPull x = new ClothPull();
        due.is("a new one's length", x.count(0), 100);
        due.is("a new one's end", x.count(1), 100);
        due.is("a new one's folds", x.count(2), 0);
        due.is("a new one's things", x.count(3), 0);
        due.is("a new one's ticks", x.count(4), 0);
        due.is("a new one's clauses", x.count(5), 0);
        due.is("a new one's tape", x.count(6), 0);
        due.is("a new one's X", x.count(7), 1);
        for (int i = 0; i < 10; i++) for (int w = 0; w < 8; w++) due.is("a new one's thing " + i, x.thingIs(i, w), -1);
        due.is("place 99 of a new one", x.thing(0, 0, 99, 1, 1, 1), true);
        due.is("place 100 of a new one", new ClothPull().thing(0, 0, 100, 1, 1, 1), false);
        due.is("end 100 of a new one", new ClothPull().cloth(100), true);
        due.is("end 101 of a new one", new ClothPull().cloth(101), false);
        due.is("no letter is told at first: what stands on wood does not go", x.still(1), 0);
        // Without a law nothing gets quicker, and the tick of a pull tilts nothing.
        x.thing(1, 0, 5, 1, 60, 1);
        Due.pull(x, "40");
        due.is("without a law all stand", x.still(0), 2);
        due.is("without a law none goes", x.still(1), 0);
        due.is("without a law none slips", x.tried(3), 60);
    }

    private static void tableLengths() {
        for (int l : new int[] {10, 11, 199, 200}) {
            ClothPull x = Twins.rich();
            due.is("table(" + l + ")", x.table(l, 0), true);
            due.is("its length", x.count(0), l);
            due.is("the cloth is over all of it", x.count(1), l);
            due.is("no things are there", x.count(3), 0);
            for (int i = 0; i < 10; i++) due.is("thing " + i + " is not there", x.thingIs(i, 1), -1);
            due.is("its last place", x.thing(0, 0, l - 1, 1, 1, 1), true);
            due.is("a place behind it", x.thing(1, 0, l, 1, 1, 1), false);
            due.is("the end at its length", x.cloth(l), true);
            due.is("the end behind it", x.cloth(l + 1), false);
            due.is("the pull stays", x.count(4), 5);
            due.is("the law stays", x.count(5), 7);
            due.is("X stays", x.count(7), 4242);
            due.is("the tape stays", x.count(6), 20);
        }
        all("length", 50, (x, v) -> x.table(v, 0), 10, 200);
        all("folds", 50, (x, v) -> x.table(20, v), 0, 63);
        ClothPull x = new ClothPull();
        x.cloth(30);
        x.table(100, 0);
        due.is("the same length, but the cloth is over all of it", x.count(1), 100);
    }

    private static void tableFolds() {
        ClothPull x = new ClothPull();
        for (int f = 0; f < 64; f++) {
            due.is("folds " + f, x.table(60, f), true);
            due.is("its folds", x.count(2), f);
        }
        x.table(60, 0);
        due.is("no folds again", x.count(2), 0);
    }

    /** Whether a pull of an inch lets a fold pass the place: then and only then the fold lies there. */
    private static boolean foldLiesAt(int length, int folds, int place) {
        ClothPull x = new ClothPull();
        x.table(length, folds);
        Due.law(x, "j1(t=t);b9(t=t)");
        Due.pull(x, "1");
        x.thing(0, 0, place, 1, 1, 1);
        return x.still(1) > 0;
    }

    private static void foldPlaces() {
        int[] lengths = {10, 11, 60, 100, 101, 199, 200};
        // q times the length through 6, rounded down.
        int[][] places = {{0, 1, 3, 5, 6, 8}, {0, 1, 3, 5, 7, 9}, {0, 10, 20, 30, 40, 50}, {0, 16, 33, 50, 66, 83},
            {0, 16, 33, 50, 67, 84}, {0, 33, 66, 99, 132, 165}, {0, 33, 66, 100, 133, 166}};
        for (int k = 0; k < lengths.length; k++) {
            for (int q = 0; q < 6; q++) {
                int at = places[k][q];
                String name = "fold " + q + " of " + lengths[k];
                due.is(name + " lies at " + at, foldLiesAt(lengths[k], 1 << q, at), true);
                due.is(name + " lies not above", foldLiesAt(lengths[k], 1 << q, at + 1), false);
                due.is(name + " lies not below", at > 0 && foldLiesAt(lengths[k], 1 << q, at - 1), false);
                due.is("all but " + name, foldLiesAt(lengths[k], 63 - (1 << q), at), false);
                due.is("all with " + name, foldLiesAt(lengths[k], 63, at), true);
            }
        }
    }

    /** A fold is none, if it is not below the end. */
    private static void foldsAtTheEnd() {
        ClothPull x = new ClothPull();
        x.table(60, 8);
        Due.law(x, "j7(t=t);b99(t=t)");
        x.thing(0, 0, 0, 1, 1, 1);
        x.cloth(30);
        due.is("fold 3 at the end is none", x.worth(3, 0), -100000);
        due.is("fold 3 at the end is none (inches)", x.worth(3, 1), -100000);
        x.cloth(31);
        due.is("fold 3 below the end by 1", x.worth(3, 0), 0);
        due.is("fold 3 below the end by 1 (inches)", x.worth(3, 1), 0);
        x.cloth(0);
        due.is("fold 3 without a cloth", x.worth(3, 0), -100000);
        x.table(60, 1);
        x.cloth(0);
        due.is("fold 0 at the end 0 is none", x.worth(0, 0), -100000);
        x.cloth(1);
        due.is("fold 0 at the end 1", x.worth(0, 0), 0);
        // Fold 5 of 60 lies at 50 and passes a thing there by the first inch; the cloth ends one inch nearer then.
        x.table(60, 32);
        x.thing(0, 0, 50, 1, 1, 1);
        Due.pull(x, "1");
        x.cloth(52);
        due.is("the fold passes on cloth", x.still(1), 7 + 6 + 5 + 4 + 3 + 2 + 1);
        x.cloth(51);
        due.is("it passes where the cloth ends: wood", x.still(1), 0);
    }

    private static void clothEnds() {
        for (int l : new int[] {10, 77, 200}) {
            all("end of " + l, l, (x, v) -> x.cloth(v), 0, l);
            ClothPull x = on(l);
            for (int e : new int[] {0, 1, l - 1, l}) {
                x.cloth(e);
                due.is("the end of " + l + " at " + e, x.count(1), e);
            }
            due.is("its thing is there yet", x.thingIs(3, 1), 1);
        }
    }

    private static void thingBounds() {
        all("number", 50, (x, v) -> x.thing(v, 0, 1, 1, 1, 1), 0, 9);
        all("kind", 50, (x, v) -> x.thing(1, v, 1, 1, 1, 1), 0, 3);
        for (int l : new int[] {10, 50, 100, 200}) all("place of " + l, l, (x, v) -> x.thing(1, 0, v, 1, 1, 1), 0, l - 1);
        all("foot", 50, (x, v) -> x.thing(1, 0, 1, v, 1, 1), 1, 40);
        all("height", 50, (x, v) -> x.thing(1, 0, 1, 1, v, 1), 1, 60);
        all("weight", 50, (x, v) -> x.thing(1, 0, 1, 1, 1, v), 1, 99);
        ClothPull x = on(200);
        for (int i = 0; i < 10; i++) due.is("thing " + i, x.thing(i, i % 4, i * 20, i + 1, i + 2, i + 3), true);
        due.is("ten things", x.count(3), 1023);
        for (int i = 0; i < 10; i++) {
            int[] wanted = {i % 4, i * 20, i + 1, i + 2, i + 3, 0, 0, 0};
            for (int w = 0; w < 8; w++) due.is("thing " + i + ", " + w, x.thingIs(i, w), wanted[w]);
        }
        x.thing(0, 3, 199, 40, 60, 99);
        int[] most = {3, 199, 40, 60, 99};
        for (int w = 0; w < 5; w++) due.is("the most, " + w, x.thingIs(0, w), most[w]);
        x.thing(0, 0, 0, 1, 1, 1);
        int[] least = {0, 0, 1, 1, 1};
        for (int w = 0; w < 5; w++) due.is("the least, " + w, x.thingIs(0, w), least[w]);
        x.cloth(0);
        due.is("a thing where no cloth is", x.thing(5, 0, 199, 1, 1, 1), true);
        due.is("a place where one is", x.thing(6, 0, 199, 1, 1, 1), true);
    }

    private static void thingsAreReplaced() {
        ClothPull x = Twins.rich();
        due.is("wet ahead of it", x.thingIs(9, 5), 9);
        due.is("again", x.thing(9, 3, 7, 8, 9, 10), true);
        int[] wanted = {3, 7, 8, 9, 10, 0, 0, 0};
        for (int w = 0; w < 8; w++) due.is("in place of the one before, " + w, x.thingIs(9, w), wanted[w]);
        due.is("as many things", x.count(3), 512 + 16 + 7);
        x.away(9);
        x.thing(9, 3, 7, 8, 9, 10);
        due.is("dry, behind away", x.thingIs(9, 5), 0);
    }

    private static void moreBounds() {
        all("wet", 50, (x, v) -> x.more(3, v, 0, 0), 0, 9);
        all("filled", 50, (x, v) -> x.more(3, 0, v, 0), 0, 9);
        all("worth", 50, (x, v) -> x.more(3, 0, 0, v), 0, 999);
        ClothPull x = new ClothPull();
        for (int i = 0; i < 10; i++) {
            due.is("more of untold " + i, x.more(i, 1, 1, 1), false);
            x.thing(i, 0, i, 1, 1, 1);
            due.is("more of told " + i, x.more(i, 9 - i, i, 990 + i), true);
        }
        for (int i = 0; i < 10; i++) {
            int[] wanted = {0, i, 1, 1, 1, 9 - i, i, 990 + i};
            for (int w = 0; w < 8; w++) due.is("more of " + i + ", " + w, x.thingIs(i, w), wanted[w]);
        }
        due.is("more of 10", x.more(10, 1, 1, 1), false);
        due.is("more of -1", x.more(-1, 1, 1, 1), false);
        x.more(0, 0, 0, 0);
        for (int w = 5; w < 8; w++) due.is("none again, " + w, x.thingIs(0, w), 0);
    }

    private static void awayAndAgain() {
        ClothPull x = new ClothPull();
        for (int i = 0; i < 10; i++) x.thing(i, 0, i, 1, 1, 1);
        int things = 1023;
        for (int i : new int[] {9, 0, 5, 1, 8, 2, 7, 3, 6, 4}) {
            due.is("away " + i, x.away(i), true);
            things &= ~(1 << i);
            due.is("the others stay", x.count(3), things);
            due.is("away " + i + " again", x.away(i), false);
            due.is("no " + i, x.thingIs(i, 0), -1);
        }
        due.is("away 10", x.away(10), false);
        due.is("away -1", x.away(-1), false);
    }

    private static void tapeFills() {
        ClothPull x = new ClothPull();
        due.is("no bytes", x.count(6), 0);
        for (int i = 1; i <= 11; i++) {
            due.is("feed " + i, x.feed(i, -i, i << 24, 0x61626364, 0xe1e2e3e4), 20 * i);
            due.is("bytes", x.count(6), 20 * i);
        }
        due.is("feed 12", x.feed(1, 2, 3, 4, 5), -1);
        due.is("bytes of a full tape", x.count(6), 220);
        x.check(0);
        due.is("bytes of an emptied tape", x.count(6), 0);
        due.is("feed again", x.feed(0x30313233, 0x34353637, 0x38392c31, 0x2c322c33, 0x2a392c34), 20);
        // "0123456789,1,2,3*9,4": what can't stand there shows where each byte is: the 2 behind 01.
        due.is("the highest of each int first", x.pull(20), -1002);
        x.feed(0x302c312c, 0x322c332c, 0x342c352c, 0x362c372c, 0x382c392a);
        due.is("all twenty", x.pull(20), -1020);
        x.feed(0x302c312c, 0x322c332c, 0x342c352c, 0x362c372c, 0x382c3932);
        due.is("the last of the twenty", x.pull(20), -3018);
        x.feed(0x302c312c, 0x322c332c, 0x342c352c, 0x362c372c, 0x382c3132);
        due.is("ten paces", x.pull(20), 10);
        int[] paces = {0, 1, 2, 3, 4, 5, 6, 7, 8, 12};
        for (int t = 0; t < 10; t++) due.is("pace " + t, x.count(100 + t), paces[t]);
        x.feed(0x312c322c, 0x332c342c, 0x352c362c, 0x372c382c, 0x392c302c);
        x.feed(0x31300000, 0, 0, 0, 0);
        due.is("over two feeds", x.pull(22), 11);
        due.is("its last pace", x.count(110), 10);
    }

    private static void seeds() {
        all("seed", 50, (x, v) -> x.seed(v), 0, 65535);
        for (int s : new int[] {0, 1, 65534, 65535, 32768, 4095}) {
            ClothPull x = new ClothPull();
            due.is("seed " + s, x.seed(s), true);
            due.is("X", x.count(7), s);
            Due.law(x, "hr(t=t)");
            Due.pull(x, "9*5");
            long seed = s;
            int end = 100;
            for (int t = 0; t < 5; t++) {
                seed = (25173L * seed + 13849L) % 65536L;
                end -= 9 - (int) (seed % 10);
            }
            due.is("the end by seed " + s, x.tried(3), end);
            due.is("X stays", x.count(7), s);
            x.done();
            due.is("X goes on from " + s, x.count(7), seed);
            due.is("the end is there", x.count(1), end);
        }
    }

    /** X for the draws of 0 and of 9, and beside them. */
    private static void draws() {
        int[] seen = new int[10];
        for (int s = 0; s < 60; s++) {
            ClothPull x = new ClothPull();
            x.seed(s);
            Due.law(x, "hr(t=t)");
            Due.pull(x, "9");
            int draw = (int) ((25173L * s + 13849L) % 65536L % 10L);
            seen[draw]++;
            due.is("the draw of " + s, x.tried(3), 100 - 9 + draw);
            x.done();
            due.is("X of " + s, x.count(7), (25173L * s + 13849L) % 65536L);
        }
        for (int d = 0; d < 10; d++) due.is("a draw of " + d, seen[d] > 0, true);
        // A draw in each tick of the pull, though no h is told; none behind it.
        ClothPull x = new ClothPull();
        x.thing(0, 0, 75, 1, 1, 1);
        Due.law(x, "a9(t=t);b99(t=t)");
        Due.pull(x, "9*2");
        due.is("it goes on for ten ticks", x.tried(2), 11);
        x.done();
        due.is("two draws, though it goes on", x.count(7), (25173L * 39022 + 13849) % 65536);
        Due.pull(x, "0*9,0*9,0*9,0*9,0*9,0*9,0*6");
        x.seed(1);
        x.done();
        long seed = 1;
        for (int t = 0; t < 60; t++) seed = (25173L * seed + 13849L) % 65536L;
        due.is("sixty draws", x.count(7), seed);
    }

    private static void keptIsCopied() {
        ClothPull x = Twins.noPull();
        due.is("undo of none", x.undo(), false);
        due.is("keep two", x.keep(), 2);
        due.is("undo at once", x.undo(), true);
        Map<String, Integer> kept = Twins.state(x);
        x.thing(0, 3, 1, 2, 3, 4);
        x.more(1, 5, 6, 7);
        x.cloth(1);
        x.seed(9);
        due.is("undo", x.undo(), true);
        due.is("all is as it was kept", Twins.differ(kept, Twins.state(x)), "");
        x.table(12, 63);
        due.is("undo twice", x.undo(), true);
        due.is("all is as it was kept yet", Twins.differ(kept, Twins.state(x)), "");
        x.away(0);
        x.away(1);
        due.is("keep none", x.keep(), 0);
        x.thing(1, 0, 1, 1, 1, 1);
        due.is("undo to none", x.undo(), true);
        due.is("none is there", x.count(3), 0);
        for (int i = 0; i < 10; i++) x.thing(i, 0, 1, 1, 1, 1);
        due.is("keep ten", x.keep(), 10);
        // Neither the pull, the law nor the tape are kept.
        x = Twins.rich();
        Due.pull(x, "4*3");
        Due.law(x, "a9(t=t)");
        x.feed(1, 2, 3, 4, 5);
        due.is("undo of a table alone", x.undo(), true);
        due.is("the pull", x.count(4) * 100 + x.count(102), 304);
        due.is("the law", x.count(5), 1);
        due.is("the tape", x.count(6), 20);
        due.is("X as kept", x.count(7), 777);
        due.is("the end as kept", x.count(1), 80);
        due.is("the things as kept", x.count(3), 512 + 32 + 16 + 7);
        due.is("wet as kept", x.thingIs(9, 5), 0);
    }

    private static void checks() {
        for (int n = 0; n <= 10; n++) {
            for (int bad = -1; bad < n; bad++) {
                ClothPull x = new ClothPull();
                for (int i = 0; i < 10; i += 2) x.thing(i, 0, 10 + i, 1, 1, 1);
                int[] v = new int[15];
                for (int i = 0; i < 10; i++) v[i] = i % 2 == 0 ? 10 + i : 0;
                for (int i = n; i < 15; i++) v[i] = 77;
                if (bad >= 0) for (int i = bad; i < 15; i++) v[i]++;
                for (int k = 0; k < 15; k += 5) x.feed(v[k], v[k + 1], v[k + 2], v[k + 3], v[k + 4]);
                due.is("check " + n + " with a wrong " + bad, x.check(n), bad);
                due.is("its tape", x.count(6), 0);
            }
        }
        int[] enough = {0, 20, 20, 20, 20, 20, 40, 40, 40, 40, 40};
        for (int n = 1; n <= 10; n++) {
            ClothPull x = new ClothPull();
            for (int k = 0; k < enough[n] - 20; k += 20) x.feed(0, 0, 0, 0, 0);
            due.is("check " + n + " of too few", x.check(n), -2);
            due.is("the tape stays", x.count(6), enough[n] - 20);
            x.feed(0, 0, 0, 0, 0);
            due.is("check " + n + " of enough", x.check(n), -1);
        }
        // All of a number's four bytes count: 130 is not 256 + 2, nor 256 + 130.
        for (int place : new int[] {130, 199, 128, 1, 0}) {
            for (int number : new int[] {place, place + 256, place | 1 << 15, place | 1 << 23, place | 1 << 31, (place & 127) | 256, (place & 127) | 1 << 16, place << 8, place << 16, place << 24, -place}) {
                ClothPull x = new ClothPull();
                x.table(200, 0);
                x.thing(0, 0, place, 1, 1, 1);
                x.feed(number, 0, 0, 0, 0);
                due.is("the number " + number + " for the place " + place, x.check(1), number == place ? -1 : 0);
            }
        }
        // An untold one counts 0, though one was there; one that is over, too.
        ClothPull x = new ClothPull();
        x.thing(0, 0, 33, 1, 1, 1);
        x.away(0);
        x.feed(33, 0, 0, 0, 0);
        due.is("one that is away", x.check(1), 0);
        x.feed(0, 0, 0, 0, 0);
        due.is("one that is away counts 0", x.check(1), -1);
    }

    private static void counts() {
        ClothPull x = new ClothPull();
        Due.pull(x, "7");
        due.is("pace 0 of one tick", x.count(100), 7);
        due.is("no pace 1", x.count(101), -1);
        due.is("no pace -1", x.count(99), -1);
        Due.pull(x, "0*9,0*9,0*9,0*9,0*9,0*9,0*5,40");
        due.is("sixty ticks", x.count(4), 60);
        due.is("pace 58", x.count(158), 0);
        due.is("pace 59", x.count(159), 40);
        due.is("no pace 60", x.count(160), -1);
        due.is("nothing behind X", x.count(8), -1);
        due.is("nothing ahead of the length", x.count(-1), -1);
    }

    private static void changes(String name, String wanted, Twins.Call call) {
        ClothPull x = Twins.rich();
        Map<String, Integer> was = Twins.state(x);
        call.on(x);
        due.is("what " + name + " changes", Twins.differ(was, Twins.state(x)), wanted);
    }

    private static void whatACallChanges() {
        changes("table", "count(0); count(1); count(2); count(3); thingIs(0, 1); thingIs(1, 1); thingIs(2, 1); thingIs(4, 1); thingIs(9, 1); "
            + sides(0) + sides(1) + sides(2) + sides(4) + "thingIs(9, 0); thingIs(9, 2); thingIs(9, 3); thingIs(9, 4); thingIs(9, 5); thingIs(9, 6); thingIs(9, 7)",
            x -> Twins.b(x.table(50, 1)));
        changes("cloth", "count(1)", x -> Twins.b(x.cloth(50)));
        changes("thing", "count(3); thingIs(3, 1)", x -> Twins.b(x.thing(3, 0, 1, 1, 1, 1)));
        changes("thing again", "thingIs(4, 1); thingIs(4, 4)", x -> Twins.b(x.thing(4, 2, 7, 12, 2, 31)));
        changes("more", "thingIs(4, 5); thingIs(4, 6); thingIs(4, 7)", x -> Twins.b(x.more(4, 1, 1, 1)));
        changes("away", "count(3); thingIs(4, 1); " + sides(4).substring(0, sides(4).length() - 2), x -> Twins.b(x.away(4)));
        changes("feed", "count(6)", x -> x.feed(0, 0, 0, 0, 0));
        changes("pull", "count(4); count(6); count(100); count(101); count(102); count(103); count(104)", x -> Due.pull(x, "8"));
        changes("law", "count(5); count(6)", x -> Due.law(x, "a9(t=t)"));
        changes("seed", "count(7)", x -> Twins.b(x.seed(5)));
        changes("keep", "", ClothPull::keep);
        changes("undo", "count(1); count(3); count(7); thingIs(1, 1); thingIs(5, 1); thingIs(1, 0); thingIs(1, 2); thingIs(1, 6); thingIs(1, 7); "
            + "thingIs(2, 5); thingIs(2, 7); thingIs(9, 5); thingIs(9, 6); thingIs(9, 7)", x -> Twins.b(x.undo()));
        changes("check", "count(6)", x -> x.check(1));
    }

    private static String sides(int i) {
        StringBuilder s = new StringBuilder();
        for (int w = 0; w < 8; w++) if (w != 1) s.append("thingIs(").append(i).append(", ").append(w).append("); ");
        return s.toString();
    }

    /** All memory is the table's own: of two objects none knows what the other one is told. */
    private static void eachHasItsOwn() {
        ClothPull x = Twins.rich();
        ClothPull y = new ClothPull();
        Map<String, Integer> state = Twins.state(x);
        Map<String, Integer> evening = Twins.evening(x);
        y.table(33, 63);
        y.thing(0, 3, 9, 8, 7, 6);
        y.seed(99);
        y.keep();
        Due.law(y, "h7(t=t);a7(t=t)");
        Due.pull(y, "7*7");
        y.feed(1, 2, 3, 4, 5);
        y.tried(1);
        y.best(0);
        y.done();
        due.is("the other one's state", Twins.differ(state, Twins.state(x)), "");
        due.is("the other one's evening", Twins.differ(evening, Twins.evening(x)), "");
        due.is("a third one is new", Twins.differ(Twins.state(new ClothPull()), Twins.state(new ClothPull())), "");
        due.is("its tape", x.check(5), -1);
        due.is("it undoes its own", x.undo(), true);
        due.is("its own X", x.count(7), 777);
        due.is("a new one has nothing to undo", new ClothPull().undo(), false);
    }

    /** A fold lies where it lies ahead of each evening, however far the cloth came in the one before. */
    private static void foldsAgain() {
        ClothPull x = new ClothPull();
        x.table(60, 8);
        Due.law(x, "j1(t=t);b9(t=t)");
        Due.pull(x, "1");
        x.thing(0, 0, 31, 1, 1, 1);
        due.is("behind the fold", x.still(1), 0);
        x.thing(1, 0, 30, 1, 1, 1);
        due.is("at the fold", x.still(1), 1);
        x.done();
        due.is("the end comes nearer", x.count(1), 59);
        due.is("it went an inch", x.thingIs(1, 1), 29);
        due.is("it is ahead of the fold then", x.still(1), 0);
        x.thing(1, 0, 30, 1, 1, 1);
        due.is("the fold is where it was", x.still(1), 1);
        Due.pull(x, "28");
        x.done();
        due.is("the end", x.count(1), 31);
        due.is("the fold is below it yet", x.worth(3, 0), 0);
        Due.pull(x, "1");
        x.done();
        due.is("the end", x.count(1), 30);
        due.is("the fold is none", x.worth(3, 0), -100000);
        due.is("the folds are told yet", x.count(2), 8);
    }
}
