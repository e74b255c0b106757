/** The bounds of the pull's and the law's texts and their faults: each one step inside it and one outside. */
public final class TextBoundsTest {
    private static final Due due = new Due();
    /** A pull that was told ahead of each text: it has to stay behind a fault. */
    private static final String BEFORE = "11,12*2";

    public static void main(String[] args) {
        pullPaces();
        pullTimes();
        pullSigns();
        pullSteps();
        pullTicks();
        pullFirstFault();
        pullBytes();
        lawLetters();
        lawSigns();
        lawDigits();
        lawClauses();
        lawOpenBrackets();
        lawOpenParts();
        lawOpenNots();
        lawOpenMixed();
        lawFirstFault();
        lawBytes();
        due.end();
    }

    /** The text is a pull of these paces. */
    private static void pulls(String text, int... paces) {
        ClothPull x = new ClothPull();
        Due.pull(x, BEFORE);
        due.is("pull " + text, Due.pull(x, text), paces.length);
        due.is("ticks of " + text, x.count(4), paces.length);
        for (int t = 0; t < paces.length; t++) due.is("tick " + t + " of " + text, x.count(100 + t), paces[t]);
        due.is("behind the ticks of " + text, x.count(100 + paces.length), -1);
        due.is("the tape behind " + text, x.count(6), 0);
    }

    /** The text has the fault; the pull before stays. */
    private static void pullFault(String text, int fault, int place) {
        ClothPull x = new ClothPull();
        Due.pull(x, BEFORE);
        due.is("pull " + text, Due.pull(x, text), -1000 * fault - place);
        due.is("the pull before " + text, x.count(4), 3);
        due.is("its paces before " + text, x.count(100) * 10000 + x.count(101) * 100 + x.count(102), 111212);
        due.is("the tape behind " + text, x.count(6), 0);
    }

    private static void pullPaces() {
        for (int pace = 0; pace <= 99; pace++) {
            if (pace <= 40) pulls("" + pace, pace); else pullFault("" + pace, 3, 0);
            if (pace <= 40) pulls("7," + pace, 7, pace); else pullFault("7," + pace, 3, 2);
            if (pace <= 40) pulls("7*2," + pace + "*2", 7, 7, pace, pace); else pullFault("7*2," + pace + "*2", 3, 4);
        }
        pulls("00", 0);
        pulls("09", 9);
        pulls("01,02", 1, 2);
        // Two digits at the latest: a third one can't stand there; the pace is asked ahead of it.
        pullFault("000", 1, 2);
        pullFault("012", 1, 2);
        pullFault("400", 1, 2);
        pullFault("100", 1, 2);
        pullFault("410", 3, 0);
        pullFault("411", 3, 0);
        pullFault("5,999", 3, 2);
        pullFault("41x", 3, 0);
        pullFault("41,", 3, 0);
        pullFault("41*1", 3, 0);
        pullFault("4,1,40,41", 3, 7);
        pullFault("-1", 1, 0);
    }

    private static void pullTimes() {
        for (int times = 2; times <= 9; times++) {
            int[] paces = new int[times];
            java.util.Arrays.fill(paces, 3);
            pulls("3*" + times, paces);
        }
        pullFault("3*1", 1, 2);
        pullFault("3*0", 1, 2);
        pullFault("3*", 1, 2);
        pullFault("3*x", 1, 2);
        pullFault("3*:", 1, 2);
        pullFault("3*/", 1, 2);
        pullFault("3**2", 1, 2);
        pullFault("3*,", 1, 2);
        pullFault("3*10", 1, 2);
        pullFault("3*02", 1, 2);
        pullFault("3*22", 1, 3);
        pullFault("3*99", 1, 3);
        pullFault("3*2*2", 1, 3);
        pullFault("12*2x", 1, 4);
        pullFault("12*1", 1, 3);
        pulls("40*2,40", 40, 40, 40);
    }

    private static void pullSigns() {
        pullFault("x", 1, 0);
        pullFault(",", 1, 0);
        pullFault("*2", 1, 0);
        pullFault(" 5", 1, 0);
        pullFault("5 ", 1, 1);
        pullFault("5, 6", 1, 2);
        pullFault("5,", 1, 2);
        pullFault("5,,6", 1, 2);
        pullFault("5;6", 1, 1);
        pullFault("5.6", 1, 1);
        pullFault("5/", 1, 1);
        pullFault("5:", 1, 1);
        pullFault("/", 1, 0);
        pullFault(":", 1, 0);
        pullFault("5+", 1, 1);
        pullFault("5-", 1, 1);
        pullFault("5)", 1, 1);
        pullFault("5,6,7,8,9,x", 1, 10);
        pullFault("5\0", 1, 1);
        pullFault("\0", 1, 0);
        pullFault("" + (char) ('5' + 128), 1, 0);
        pullFault("5" + (char) ('5' + 128), 1, 1);
        pullFault("5" + (char) (',' + 128), 1, 1);
        pullFault("5*" + (char) ('5' + 128), 1, 2);
        pullFault("" + (char) 255, 1, 0);
        for (int c = 0; c < 256; c++) {
            if (c < '0' || c > '9') pullFault("" + (char) c, 1, 0);
            if ((c < '0' || c > '9') && c != ',' && c != '*') pullFault("5" + (char) c, 1, 1);
            if ((c < '0' || c > '9') && c != ',' && c != '*') pullFault("15" + (char) c, 1, 2);
            if (c < '2' || c > '9') pullFault("5*" + (char) c, 1, 2);
            if (c != ',') pullFault("5*5" + (char) c, 1, 3);
        }
    }

    private static void pullSteps() {
        int[] twenty = new int[20];
        java.util.Arrays.fill(twenty, 6);
        String nineteen = "6,".repeat(19);
        pulls(nineteen + "6", twenty);
        pullFault(nineteen + "6,", 1, 40);
        pullFault(nineteen + "6,x", 1, 40);
        pullFault(nineteen + "6,,", 1, 40);
        pullFault(nineteen + "6x", 1, 39);
        pullFault(nineteen + "6,6", 4, 40);
        pullFault(nineteen + "6,0", 4, 40);
        pullFault(nineteen + "6,41", 4, 40);
        pullFault(nineteen + "6,6x", 4, 40);
        pullFault(nineteen + "6,6,6", 4, 40);
        pullFault(nineteen + "41", 3, 38);
        pullFault(nineteen + "x", 1, 38);
        int[] sixty = new int[60];
        java.util.Arrays.fill(sixty, 12);
        pulls("12*3,".repeat(19) + "12*3", sixty);
        pullFault("12*3,".repeat(20) + "1", 4, 100);
        pullFault("12*2,".repeat(20) + "1", 4, 100);
        int[] more = new int[59];
        java.util.Arrays.fill(more, 12);
        pulls("12*3,".repeat(19) + "12*2", more);
    }

    private static void pullTicks() {
        String fiftyfour = "6*9,".repeat(6);
        int[] sixty = new int[60];
        java.util.Arrays.fill(sixty, 6);
        int[] fiftynine = new int[59];
        java.util.Arrays.fill(fiftynine, 6);
        pulls(fiftyfour + "6*5", fiftynine);
        pulls(fiftyfour + "6*6", sixty);
        pullFault(fiftyfour + "6*7", 6, 24);
        pullFault(fiftyfour + "6*9", 6, 24);
        pulls(fiftyfour + "6*5,6", sixty);
        pullFault(fiftyfour + "6*5,6*2", 6, 28);
        pullFault(fiftyfour + "6*6,6", 6, 28);
        pullFault(fiftyfour + "6*6,0", 6, 28);
        pullFault(fiftyfour + "6*6,40", 6, 28);
        pullFault(fiftyfour + "6*6,40*2", 6, 28);
        pullFault(fiftyfour + "6*6,6,6", 6, 28);
        pullFault(fiftyfour + "6*5,6,6", 6, 30);
        pullFault(fiftyfour + "6*5,16,16", 6, 31);
        // What is behind the step by which they are more is not asked any more; what is in it is.
        pullFault(fiftyfour + "6*7x", 6, 24);
        pullFault(fiftyfour + "6*7,", 6, 24);
        pullFault(fiftyfour + "6*6,6x", 6, 28);
        pullFault(fiftyfour + "6*1", 1, 26);
        pullFault(fiftyfour + "6*6,x", 1, 28);
        pullFault(fiftyfour + "6*6,", 1, 28);
        pullFault(fiftyfour + "6*6,41", 3, 28);
    }

    private static void pullFirstFault() {
        pullFault("5,x,41", 1, 2);
        pullFault("5,41,x", 3, 2);
        pullFault("41,x", 3, 0);
        pullFault("5x,41", 1, 1);
        pullFault("9*9,".repeat(6) + "9*7,41", 6, 24);
        pullFault("9*9,".repeat(6) + "41*7", 3, 24);
    }

    private static void pullBytes() {
        ClothPull x = new ClothPull();
        Due.feed(x, "7*2,8*2,9*2,10*2,11*");
        due.is("pull(20) of 20 bytes: its end is a fault", x.pull(20), -1020);
        Due.feed(x, "7*2,8*2,9*2,10*2,5,6");
        due.is("pull(21) of 20 bytes", x.pull(21), -1);
        due.is("pull(20) of 20 bytes", x.pull(20), 10);
        Due.feed(x, "7*2,8*2,9*2,10*2,5,6");
        due.is("pull(19) of 20 bytes: a comma at its end", x.pull(19), -1019);
        Due.feed(x, "7*2,8*2,9*2,10*2,5,6");
        due.is("pull(18) of 20 bytes", x.pull(18), 9);
        due.is("the rest is gone", x.count(6), 0);
        Due.feed(x, "7*2,8*2,9*2,10*2,5,6");
        due.is("pull(1)", x.pull(1), 1);
        Due.feed(x, "7*2,8*2,9*2,10*2,5,6");
        due.is("pull(0)", x.pull(0), -1);
        due.is("the tape stays", x.count(6), 20);
        x.check(0);
        Due.feed(x, "40*3,".repeat(19) + "40*3" + " ".repeat(41));
        due.is("140 bytes", x.count(6), 140);
        due.is("pull(121) of 140 bytes", x.pull(121), -1);
        due.is("pull(141) of 140 bytes", x.pull(141), -1);
        due.is("the tape stays", x.count(6), 140);
        due.is("pull(120): the blank", x.pull(120), -1099);
        due.is("the tape is empty", x.count(6), 0);
        Due.feed(x, "40*3,".repeat(19) + "40*3" + " ".repeat(41));
        due.is("the longest there is", x.pull(99), 60);
        Due.feed(x, " ".repeat(120));
        due.is("pull(120) of 120 bytes", x.pull(120), -1000);
        Due.feed(x, " ".repeat(120));
        due.is("pull(119) of 120 bytes", x.pull(119), -1000);
        // What a longer text left behind is not read again.
        Due.feed(x, "1,2,3,4,5,6,7,8,9");
        due.is("nine", x.pull(17), 9);
        Due.feed(x, "1,2,3");
        due.is("three", x.pull(5), 3);
        Due.feed(x, "5");
        due.is("one", x.pull(1), 1);
        due.is("its second tick", x.count(101), -1);
    }

    private static void laws(String text, int clauses) {
        ClothPull x = new ClothPull();
        Due.law(x, "z9(t=t);b9(t=t)");
        due.is("law " + text, Due.law(x, text), clauses);
        due.is("clauses of " + text, x.count(5), clauses);
        due.is("the tape behind " + text, x.count(6), 0);
    }

    private static void lawFault(String text, int fault, int place) {
        ClothPull x = new ClothPull();
        Due.law(x, "z9(t=t);b9(t=t)");
        due.is("law " + text, Due.law(x, text), -1000 * fault - place);
        due.is("the law before " + text, x.count(5), 2);
        due.is("the tape behind " + text, x.count(6), 0);
    }

    private static void lawLetters() {
        for (int c = 0; c < 256; c++) {
            String s = "" + (char) c;
            if (c > 0 && "ashjbz".indexOf(c) >= 0) laws(s + "1(t=t)", 1); else lawFault(s + "1(t=t)", 1, 0);
            if (c > 0 && "ashjbz".indexOf(c) >= 0) laws("a1(t=t);" + s + "1(t=t)", 2); else lawFault("a1(t=t);" + s + "1(t=t)", 1, 8);
            boolean told = c > 0 && "tprikxfgwluc0123456789".indexOf(c) >= 0;
            if (told) laws("a" + s + "(t=t)", 1); else if (c == '[') lawFault("a" + s + "(t=t)", 1, 2); else lawFault("a" + s + "(t=t)", 1, 1);
            if (told) laws("a1(t=" + s + ")", 1); else lawFault("a1(t=" + s + ")", 1, c == '[' ? 6 : 5);
            boolean opens = c == '[' || c == '(' || c == '!';
            if (told) laws("a1(" + s + "=t)", 1); else lawFault("a1(" + s + "=t)", 1, opens ? 4 : 3);
            boolean joins = c > 0 && "+-*/%".indexOf(c) >= 0;
            boolean compares = c == '<' || c == '>' || c == '=';
            if (joins || c >= '0' && c <= '9') laws("a1" + s + "1(t=t)", 1); else lawFault("a1" + s + "1(t=t)", 1, c == '(' ? 4 : 2);
            if (compares) laws("a1(t" + s + "t)", 1); else lawFault("a1(t" + s + "t)", 1, joins ? 6 : 4);
        }
    }

    private static void lawSigns() {
        lawFault("a", 1, 1);
        lawFault("a1", 1, 2);
        lawFault("a1(", 1, 3);
        lawFault("a1(t", 1, 4);
        lawFault("a1(t=", 1, 5);
        lawFault("a1(t=t", 1, 6);
        laws("a1(t=t)", 1);
        lawFault("a1(t=t);", 1, 8);
        lawFault("a1(t=t);a", 1, 9);
        laws("a1(t=t);a1(t=t)", 2);
        lawFault("a1(t=t) ", 1, 7);
        lawFault("a1(t=t),a1(t=t)", 1, 7);
        lawFault("a1(t=t):", 1, 7);
        lawFault("a1(t=t)a1(t=t)", 1, 7);
        lawFault(";a1(t=t)", 1, 0);
        lawFault("a1(t=t);;a1(t=t)", 1, 8);
        lawFault("a(t=t)", 1, 1);
        lawFault("a1()", 1, 3);
        lawFault("a1(t)", 1, 4);
        lawFault("a1(=t)", 1, 3);
        lawFault("a1(t=)", 1, 5);
        lawFault("a1(t=t=t)", 1, 6);
        lawFault("a1(t<=t)", 1, 5);
        lawFault("a1(t=t&)", 1, 7);
        lawFault("a1(t=t|)", 1, 7);
        lawFault("a1(&t=t)", 1, 3);
        lawFault("a1(|t=t)", 1, 3);
        lawFault("a1(t=t&&t=t)", 1, 7);
        lawFault("a1(t=t|&t=t)", 1, 7);
        laws("a1(t=t&t=t|t=t&t=t)", 1);
        lawFault("a1(!)", 1, 4);
        lawFault("a1(t!=t)", 1, 4);
        lawFault("a1(t=!t)", 1, 5);
        laws("a1(!t=t)", 1);
        lawFault("a1((t=t)", 1, 8);
        laws("a1((t=t))", 1);
        lawFault("a1((t=t)))", 1, 9);
        lawFault("a1((t)=t)", 1, 5);
        lawFault("a1((t=t)=t)", 1, 8);
        lawFault("a1((t=t)+t=t)", 1, 8);
        lawFault("a1(())", 1, 4);
        lawFault("a1(t=(t))", 1, 5);
        lawFault("a(1)(t=t)", 1, 1);
        lawFault("a[1(t=t)", 1, 3);
        lawFault("a[](t=t)", 1, 2);
        lawFault("a1](t=t)", 1, 2);
        lawFault("a[1])(t=t)", 1, 4);
        lawFault("a[1=1](t=t)", 1, 3);
        lawFault("a1=1(t=t)", 1, 2);
        lawFault("a1((t=t])", 1, 7);
        lawFault("a1([t)=t)", 1, 5);
        lawFault("a1+(t=t)", 1, 3);
        lawFault("a+1(t=t)", 1, 1);
        lawFault("a-1(t=t)", 1, 1);
        lawFault("a1++1(t=t)", 1, 3);
        lawFault("a1*/1(t=t)", 1, 3);
        lawFault("a1t(t=t)", 1, 2);
        lawFault("at1(t=t)", 1, 2);
        lawFault("att(t=t)", 1, 2);
        lawFault("a1[1](t=t)", 1, 2);
        lawFault("a1 (t=t)", 1, 2);
        lawFault(" a1(t=t)", 1, 0);
        laws("a[t+1]*[2-p]/3%4(![t]=[1]&(t<1|p>2))", 1);
    }

    private static void lawDigits() {
        for (String five : new String[] {"1", "12", "123", "1234", "12345", "00000", "99999"}) {
            laws("a" + five + "(t=t)", 1);
            laws("a1(t=" + five + ")", 1);
            laws("a1(" + five + "=t)", 1);
        }
        lawFault("a123456(t=t)", 2, 6);
        lawFault("a000000(t=t)", 2, 6);
        lawFault("a1234567(t=t)", 2, 6);
        lawFault("a123456", 2, 6);
        lawFault("a12345", 1, 6);
        lawFault("a12345x", 1, 6);
        lawFault("a1+123456(t=t)", 2, 8);
        laws("a1+12345(t=t)", 1);
        lawFault("a[123456](t=t)", 2, 7);
        laws("a[12345](t=t)", 1);
        lawFault("a1(t=123456)", 2, 10);
        lawFault("a1(123456=t)", 2, 8);
        lawFault("a1(t=t);a123456(t=t)", 2, 14);
        laws("a12345*12345(t=t)", 1);
    }

    private static void lawClauses() {
        String thirteen = "a1(t=t);".repeat(13);
        laws(thirteen.substring(0, 103), 13);
        for (char letter : "ashjbz".toCharArray()) {
            laws(thirteen + letter + "1(t=t)", 14);
            lawFault(thirteen + "a1(t=t);" + letter + "1(t=t)", 4, 112);
            lawFault(thirteen + "a1(t=t);" + letter, 4, 112);
        }
        lawFault(thirteen + "a1(t=t);", 1, 112);
        lawFault(thirteen + "a1(t=t);t", 1, 112);
        lawFault(thirteen + "a1(t=t);;", 1, 112);
        lawFault(thirteen + "a1(t=t)a", 1, 111);
        lawFault(thirteen, 1, 104);
        lawFault(thirteen + "x", 1, 104);
    }

    private static void lawOpenBrackets() {
        // Ahead of the ( of the clause: six.
        laws("a[[[[[[1]]]]]](t=t)", 1);
        lawFault("a[[[[[[[1]]]]]]](t=t)", 5, 7);
        lawFault("a[[[[[[[", 5, 7);
        lawFault("a[[[[[[", 1, 7);
        laws("a[[[[[[1]]]]]]+[[[[[[1]]]]]](t=t)", 1);
        lawFault("a[[[[[[1]]]]]]+[[[[[[[1]]]]]]](t=t)", 5, 21);
        lawFault("a1+[1+[1+[1+[1+[1+[1+[1]]]]]]](t=t)", 5, 21);
        laws("a1+[1+[1+[1+[1+[1+[1]]]]]](t=t)", 1);
        // In it: five.
        laws("a1([[[[[1]]]]]=1)", 1);
        lawFault("a1([[[[[[1]]]]]]=1)", 5, 8);
        laws("a1(1=[[[[[1]]]]])", 1);
        lawFault("a1(1=[[[[[[1]]]]]])", 5, 10);
        laws("a1([[[[[1]]]]]=[[[[[1]]]]]&[[[[[1]]]]]=1|[[[[[1]]]]]=1)", 1);
        // The E of a clause stands ahead of its ( and behind the ) of the one before.
        laws("a[[[[[[1]]]]]](t=t);a[[[[[[1]]]]]](t=t)", 1 + 1);
        lawFault("a1(t=t);a[[[[[[[1]]]]]]](t=t)", 5, 15);
        // The [ that is the seventh is a fault only where it can stand.
        lawFault("a[[[[[[1[", 1, 8);
        lawFault("a1([[[[[1[", 1, 9);
    }

    private static void lawOpenParts() {
        laws("a1((((((t=t))))))", 1);
        lawFault("a1(((((((t=t)))))))", 5, 8);
        lawFault("a1(((((((", 5, 8);
        lawFault("a1((((((", 1, 8);
        laws("a1((((((t=t))))&(t=t))|(((((t=t))))))", 1);
        lawFault("a1((((((t=t))))&((t=t)))|((((((t=t)))))))", 5, 30);
        lawFault("a1((((((t(", 1, 9);
        lawFault("a1((((((t=t(", 1, 11);
    }

    private static void lawOpenNots() {
        laws("a1(!!!!!t=t)", 1);
        lawFault("a1(!!!!!!t=t)", 5, 8);
        lawFault("a1(!!!!!!", 5, 8);
        lawFault("a1(!!!!!", 1, 8);
        // A ! is open till its piece ends: behind & and | and ) there is room again.
        laws("a1(!!!!!t=t&!!!!!t=t|!!!!!t=t)", 1);
        lawFault("a1(!!!!!t=t&!!!!!!t=t)", 5, 17);
        lawFault("a1(!!!!!t=t|!!!!!!t=t)", 5, 17);
        laws("a1(!(!t=t&!t=t)&!!!!!t=t)", 1);
        lawFault("a1(!!!!!t!", 1, 9);
        // In both of its E the ! is open yet.
        laws("a1(!!!![1]=[1])", 1);
        lawFault("a1(!!!![[1]]=1)", 5, 8);
        lawFault("a1(!!!!1=[[1]])", 5, 10);
        lawFault("a1(!!!!!1=[1])", 5, 10);
        lawFault("a1(!!!!!(t=t))", 5, 8);
        laws("a1(!!!!(t=t))", 1);
    }

    private static void lawOpenMixed() {
        laws("a1(!(!([1]=1)))", 1);
        laws("a1(!(!(1=[1])))", 1);
        lawFault("a1(!(!([[1]]=1)))", 5, 8);
        lawFault("a1(!(!(1=[[1]])))", 5, 10);
        lawFault("a1(!(!(![1]=1)))", 5, 8);
        lawFault("a1(!(!(([1]=1))))", 5, 8);
        laws("a1(!(!((t=t)&[1]=1)|!(!t=t)))", 1);
        lawFault("a1(!(!((t=t)&[1]=1)|!(!!t=t)))", 5, 23);
        lawFault("a1(!(!((t=t)&[[1]]=1)|!(!t=t)))", 5, 14);
        // Behind the ) of a ! and its ( both are closed.
        laws("a1(!(t=t)&(((([1]=1))))|!(t=t))", 1);
        lawFault("a1(!(t=t)&((((([1]=1)))))|!(t=t))", 5, 15);
        laws("a1(!(t=t)&!(t=t)&!(t=t)&!(t=t)&!(t=t)&!(t=t)&!(t=t)&!(t=t))", 1);
    }

    private static void lawFirstFault() {
        lawFault("a123456(x", 2, 6);
        lawFault("ax123456(t=t)", 1, 2);
        lawFault("a1(t=t;a123456(t=t)", 1, 6);
        lawFault("a[[[[[[[123456", 5, 7);
        lawFault("a[[[[[[123456", 2, 12);
        lawFault("a1(t=t);".repeat(14) + "a123456", 4, 112);
        lawFault("a1(t=t);".repeat(13) + "a123456", 2, 110);
    }

    private static void lawBytes() {
        ClothPull x = new ClothPull();
        String whole = "a10(" + "t=t&".repeat(48) + "t=t)";
        due.is("200 bytes", whole.length(), 200);
        due.is("a law of 200 bytes", Due.law(x, whole), 1);
        due.is("its tape", x.count(6), 0);
        String more = "a100(" + "t=t&".repeat(48) + "t=t)";
        Due.feed(x, more);
        due.is("a law of 201 bytes", x.law(201), -1);
        due.is("the tape stays", x.count(6), 220);
        due.is("its first 200 bytes: the ) is missing", x.law(200), -1200);
        due.is("its tape", x.count(6), 0);
        Due.feed(x, whole);
        due.is("199 bytes of it", x.law(199), -1199);
        Due.feed(x, "a1(t=t);b2(t=t)12345");
        due.is("21 of 20 bytes", x.law(21), -1);
        due.is("0 of 20 bytes", x.law(0), -1);
        due.is("20 bytes", x.law(20), -1015);
        Due.feed(x, "a1(t=t);b2(t=t)12345");
        due.is("15 bytes", x.law(15), 2);
        Due.feed(x, "a1(t=t);b2(t=t)12345");
        due.is("7 bytes", x.law(7), 1);
        due.is("the rest is gone", x.count(6), 0);
        Due.feed(x, "a1(t=t);b2(t=t)12345");
        due.is("1 byte", x.law(1), -1001);
        due.is("1 of no bytes", x.law(1), -1);
        due.is("one clause yet", x.count(5), 1);
        Due.feed(x, "a1(t=t);b2(t=t);z(t)");
        due.is("20 bytes to the end", x.law(20), -1000 - 17);
        Due.feed(x, "a1(t=t);b22222(t=t&i");
        due.is("20 bytes, not to the end", x.law(20), -1020);
    }
}
