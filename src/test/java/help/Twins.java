import java.util.LinkedHashMap;
import java.util.Map;

/** Objects made alike: one is asked something more, then both must answer alike. None has more than 512 calls. */
final class Twins {
    interface Call { int on(ClothPull x); }

    private static final int[] TOLD = {0, 1, 2, 4, 9};
    private static final int PAD = 0x61616161;

    static int b(boolean yes) { return yes ? 1 : 0; }

    /**
     * A table on which something of each kind goes on: folds 1 and 3 (at 15 and 45), things 0, 1, 2, 4 and 9, a pull of
     * five ticks, a law with all letters; what is kept is not as it is now; the tape has the places of things 0 to 4.
     */
    static ClothPull rich() {
        ClothPull x = lawAndPull();
        x.table(90, 0b001010);
        x.cloth(80);
        x.thing(0, 1, 70, 8, 9, 20);
        x.more(0, 1, 5, 100);
        x.thing(1, 0, 55, 10, 4, 60);
        x.thing(2, 3, 44, 4, 20, 9);
        x.thing(4, 2, 6, 12, 2, 30);
        x.thing(5, 2, 80, 12, 2, 30);
        x.thing(9, 0, 20, 6, 3, 99);
        x.seed(777);
        x.keep();
        x.away(5);
        x.cloth(78);
        x.thing(1, 1, 61, 9, 4, 60);
        x.more(1, 0, 9, 50);
        x.more(2, 4, 0, 7);
        x.more(9, 9, 1, 999);
        x.seed(4242);
        x.feed(70, 61, 44, 0, 6);
        return x;
    }

    /** A pull and a law, but no things; twenty bytes on the tape; nothing is kept. */
    static ClothPull noThings() {
        ClothPull x = lawAndPull();
        x.feed(0, 0, 0, 0, 0);
        return x;
    }

    /** Things and a law, but no pull; nothing on the tape. */
    static ClothPull noPull() {
        ClothPull x = new ClothPull();
        Due.law(x, "hr(t=t);a3(t=t);b9(t=t)");
        x.thing(0, 1, 70, 8, 9, 20);
        x.thing(1, 1, 50, 8, 9, 20);
        return x;
    }

    /** As rich(), with two hundred bytes more on the tape. */
    static ClothPull full() {
        ClothPull x = rich();
        for (int i = 0; i < 10; i++) x.feed(PAD, PAD, PAD, PAD, PAD);
        return x;
    }

    /** As rich(), with an empty tape. */
    static ClothPull noTape() {
        ClothPull x = rich();
        x.check(0);
        return x;
    }

    private static ClothPull lawAndPull() {
        ClothPull x = new ClothPull();
        Due.law(x, "h1+r/3(t=t);a2+w/2(k<2);a1(t=t);s1+f/20(t=t);j3(t=t);b19-w(t=t);z1(t=t)");
        Due.pull(x, "7*2,9*2,3");
        return x;
    }

    /** What is told of the table, the things, the pull, the law, the tape, X. */
    static Map<String, Integer> state(ClothPull x) {
        Map<String, Integer> told = new LinkedHashMap<>();
        for (int w = 0; w < 8; w++) told.put("count(" + w + ")", x.count(w));
        for (int w = 100; w < 106; w++) told.put("count(" + w + ")", x.count(w));
        for (int i = 0; i < 10; i++) told.put("thingIs(" + i + ", 1)", x.thingIs(i, 1));
        for (int i : TOLD) for (int w = 0; w < 8; w++) if (w != 1) told.put("thingIs(" + i + ", " + w + ")", x.thingIs(i, w));
        return told;
    }

    /** How the evening would be, without slips and with them: by it the law and the pull show. */
    static Map<String, Integer> evening(ClothPull x) {
        Map<String, Integer> told = new LinkedHashMap<>();
        for (int w = 0; w < 9; w++) {
            told.put("still(" + w + ")", x.still(w));
            told.put("tried(" + w + ")", x.tried(w));
        }
        for (int i : TOLD) {
            for (int w = 10; w < 70; w += 10) {
                told.put("still(" + (w + i) + ")", x.still(w + i));
                told.put("tried(" + (w + i) + ")", x.tried(w + i));
            }
        }
        return told;
    }

    /** Whether all that can be asked is alike: now, on the tape, behind the evening, and as it was kept. */
    static void alike(Due due, String behind, ClothPull x, ClothPull y) {
        due.is(behind + ": the state", differ(state(x), state(y)), "");
        due.is(behind + ": the evening", differ(evening(x), evening(y)), "");
        due.is(behind + ": the tape's bytes", x.check(5), y.check(5));
        due.is(behind + ": done", x.done(), y.done());
        due.is(behind + ": the state then", differ(state(x), state(y)), "");
        due.is(behind + ": undo", x.undo(), y.undo());
        due.is(behind + ": as it was kept", differ(state(x), state(y)), "");
        due.is(behind + ": the evening as it was kept", differ(evening(x), evening(y)), "");
    }

    /** The names of what differs. */
    static String differ(Map<String, Integer> one, Map<String, Integer> other) {
        StringBuilder names = new StringBuilder();
        one.forEach((name, value) -> {
            if (!value.equals(other.get(name))) names.append(names.length() > 0 ? "; " : "").append(name);
        });
        return names.toString();
    }

    private Twins() {
    }
}
