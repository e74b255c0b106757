/** What is due and what was answered; and how texts and numbers come on the tape. */
final class Due {
    private int wrong = 0;
    private int asked = 0;

    void is(String what, long got, long want) {
        asked++;
        if (got != want) {
            wrong++;
            System.out.println(what + " answered " + got + ", due is " + want);
        }
    }

    void is(String what, boolean got, boolean want) {
        is(what, got ? 1 : 0, want ? 1 : 0);
    }

    void is(String what, String got, String want) {
        asked++;
        if (!got.equals(want)) {
            wrong++;
            System.out.println(what + " answered \"" + got + "\", due is \"" + want + "\"");
        }
    }

    /** Tells how it went, and ends the program with 1 if anything was wrong. */
    void end() {
        System.out.println(wrong == 0 ? asked + " answers are as due" : wrong + " answers are not as due");
        if (wrong != 0) System.exit(1);
    }

    static int feed(ClothPull x, int... bytes) {
        int has = ClothPull.NONE;
        for (int at = 0; at < bytes.length; at += 20) {
            int[] v = new int[5];
            for (int k = 0; k < 20 && at + k < bytes.length; k++) v[k / 4] |= (bytes[at + k] & 255) << (24 - 8 * (k % 4));
            has = x.feed(v[0], v[1], v[2], v[3], v[4]);
        }
        return has;
    }

    static void feed(ClothPull x, String text) {
        int[] bytes = new int[text.length()];
        for (int i = 0; i < bytes.length; i++) bytes[i] = text.charAt(i);
        feed(x, bytes);
    }

    static int pull(ClothPull x, String text) {
        x.check(0);
        feed(x, text);
        return x.pull(text.length());
    }

    static int law(ClothPull x, String text) {
        x.check(0);
        feed(x, text);
        return x.law(text.length());
    }
}
