import java.util.Random;

/** Any arguments in any state: no call throws or fails to end; a refused one changes nothing. */
public final class WildTest {
    private static final int[] EDGES = {Integer.MIN_VALUE, Integer.MIN_VALUE + 1, -65536, -1000, -1, 0, 1, 2, 3, 5, 9, 10, 11, 12, 31, 32, 33, 40, 41, 59, 60, 61,
        63, 64, 99, 100, 101, 119, 120, 121, 159, 160, 199, 200, 201, 219, 220, 255, 256, 999, 1000, 1023, 1024, 9999, 10000, 65535, 65536, Integer.MAX_VALUE - 1, Integer.MAX_VALUE};
    private static final String SIGNS = "ashjbztprikxfgwluc0123456789()[]!|&<>=+-*/%;,";
    private static final Due due = new Due();

    public static void main(String[] args) {
        Random r = new Random(7);
        for (int run = 0; run < 400; run++) {
            ClothPull x = new ClothPull();
            for (int i = 0; i < 512; i++) call(x, r);
            due.is("run " + run + " is whole yet", x.count(0) >= 10 && x.count(1) >= 0 && x.count(1) <= x.count(0) && x.count(3) < 1024, true);
        }
        deepTexts();
        due.end();
    }

    private static int any(Random r) {
        int kind = r.nextInt(4);
        return kind == 0 ? r.nextInt() : kind == 1 ? EDGES[r.nextInt(EDGES.length)] : r.nextInt(kind == 2 ? 12 : 70);
    }

    private static int signs(Random r) {
        int v = 0;
        for (int i = 0; i < 4; i++) v = v << 8 | SIGNS.charAt(r.nextInt(SIGNS.length()));
        return v;
    }

    private static void call(ClothPull x, Random r) {
        int a = any(r), b = any(r), c = any(r);
        switch (r.nextInt(30)) {
            case 0: x.table(r.nextInt(5) == 0 ? a : 10 + r.nextInt(190), b); break;
            case 1: x.cloth(a); break;
            case 2: case 3: case 4: x.thing(a % 10, b % 4, c, 1 + r.nextInt(40), 1 + r.nextInt(60), 1 + r.nextInt(99)); break;
            case 5: x.more(a, b % 10, c % 10, any(r)); break;
            case 6: x.away(a); break;
            case 7: case 8: x.feed(a, b, c, any(r), any(r)); break;
            case 9: x.feed(signs(r), signs(r), signs(r), signs(r), signs(r)); break;
            case 10: x.pull(a); break;
            case 11: x.law(a); break;
            case 12: x.tried(a); break;
            case 13: x.still(a); break;
            case 14: x.done(); break;
            case 15: x.thingIs(a, b); break;
            case 16: x.pace(); break;
            case 17: x.best(a); break;
            case 18: x.put(a, b); break;
            case 19: x.most(a); break;
            case 20: x.worth(a, b); break;
            case 21: x.wasWet(a); break;
            case 22: x.howQuick(a); break;
            case 23: x.odds(a, b, c); break;
            case 24: x.should(a, b); break;
            case 25: x.practice(a, b, c); break;
            case 26: x.seed(a); break;
            case 27: if (r.nextBoolean()) x.keep(); else x.undo(); break;
            case 28: x.check(a); break;
            default: x.count(a);
        }
    }

    /** The longest and the deepest texts are read, and the dearest laws are reckoned, to their end. */
    private static void deepTexts() {
        ClothPull x = new ClothPull();
        for (String s : new String[] {"a", "a(", "a[", "a1(!", "a1((", "a1(1", "a1(t=t|", "a1(t=t&", "a1+", "a1("}) {
            String last = s.substring(s.length() - 1);
            String text = s + last.repeat(200 - s.length());
            due.is("text of " + s + "..", Due.law(x, text) < 0, true);
        }
        String deep = "a[[[[[[t+1]*2]+3]*4]+5]*6]+7(!(!([t]<9)|t>5)&!(!([t*2]=3)))";
        due.is("a deep one", Due.law(x, deep), 1);
        due.is("machine's least through -1", Due.law(x, "a[0-2]*32768*32768/[0-1]%[0-1](t=t);b9(t=t)"), 2);
        Due.pull(x, "40*9");
        x.thing(0, 0, 50, 1, 1, 1);
        due.is("it ends", x.still(2) >= 9, true);
    }
}
