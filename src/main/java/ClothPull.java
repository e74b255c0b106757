/** The cloth from under the plates: a table, a cloth, things on it, and a pull over the edge. */
public final class ClothPull {
    public static final int NONE = -1;

    private static final int NOBODY = -2;
    private static final int NO_WORTH = -100000;
    private static final int NO_SHOULD = -1000000000;
    private static final int WRONG_CHECK = -2;

    private static final int THINGS = 10;
    private static final int SIDES = 8;
    private static final int KIND = 0;
    private static final int PLACE = 1;
    private static final int FOOT = 2;
    private static final int HEIGHT = 3;
    private static final int WEIGHT = 4;
    private static final int WET = 5;
    private static final int FILLED = 6;
    private static final int WORTH = 7;
    private static final int FOLDS = 6;

    private static final int PULL_BYTES = 120;
    private static final int PULL_TICKS = 60;
    private static final int PULL_STEPS = 20;
    private static final int HIGHEST_PACE = 40;
    private static final int EVENING_TICKS = 300;

    private static final int LAW_BYTES = 200;
    private static final int LAW_CLAUSES = 14;
    private static final int LAW_OPEN = 6;
    private static final String LAW_LETTERS = "ashjbz";
    private static final int QUICKER = 0;
    private static final int SLOWER = 1;
    private static final int SLIPS = 2;
    private static final int JERKS = 3;
    private static final int BEARS = 4;
    private static final int SPILLS = 5;
    private static final int[] LAW_LEAST = {0, 1, 0, 0, 0, 0};
    private static final int[] LAW_MOST = {40, 40, 40, 40, 999, 99};

    private static final String TOLD_LETTERS = "tprikxfgwluc";
    private static final int TOLD_TICK = 0;
    private static final int TOLD_PACE = 1;
    private static final int TOLD_DRAW = 2;
    private static final int TOLD_NUMBER = 3;
    private static final int TOLD_KIND = 4;
    private static final int TOLD_PLACE = 5;
    private static final int TOLD_FOOT = 6;
    private static final int TOLD_WEIGHT = 7;
    private static final int TOLD_WET = 8;
    private static final int TOLD_FILLED = 9;
    private static final int TOLD_SPEED = 10;
    private static final int TOLD_QUICK = 11;

    private static final int FAULT_STANDS = 1;
    private static final int FAULT_DIGITS = 2;
    private static final int FAULT_PACE = 3;
    private static final int FAULT_MANY = 4;
    private static final int FAULT_OPEN = 5;
    private static final int FAULT_TICKS = 6;

    private static final int TAPE_BYTES = 220;
    private static final int OVER_BYTE = 255;
    private static final int MILLION = 1000000;

    private final Table table = new Table();
    private final Table kept = new Table();
    private final Tape tape = new Tape();
    private final Pull drawn = new Pull();
    private final Pull newPull = new Pull();
    private final Law rules = new Law();
    private final Law newRules = new Law();
    private final LawReader reader = new LawReader(newRules);
    private final Search search = new Search(rules);
    private final Evening evening = search.evening;
    private final Row row = new Row();
    private boolean isKept = false;
    private int lawsRead = 0;

    public ClothPull() {
    }

    public boolean table(int length, int folds) {
        if (!within(length, 10, 200) || !within(folds, 0, 63)) {
            return false;
        }
        table.length = length;
        table.end = length;
        table.folds = folds;
        table.told = 0;
        return true;
    }

    public boolean cloth(int end) {
        if (!within(end, 0, table.length)) {
            return false;
        }
        table.end = end;
        return true;
    }

    public boolean thing(int i, int kind, int place, int foot, int height, int weight) {
        boolean fits = within(i, 0, THINGS - 1) && within(kind, 0, 3) && within(place, 0, table.length - 1)
            && within(foot, 1, 40) && within(height, 1, 60) && within(weight, 1, 99);
        if (!fits) {
            return false;
        }
        table.told |= 1 << i;
        table.change(i, KIND, kind);
        table.change(i, PLACE, place);
        table.change(i, FOOT, foot);
        table.change(i, HEIGHT, height);
        table.change(i, WEIGHT, weight);
        table.change(i, WET, 0);
        table.change(i, FILLED, 0);
        table.change(i, WORTH, 0);
        return true;
    }

    public boolean more(int i, int wet, int filled, int worth) {
        if (!table.has(i) || !within(wet, 0, 9) || !within(filled, 0, 9) || !within(worth, 0, 999)) {
            return false;
        }
        table.change(i, WET, wet);
        table.change(i, FILLED, filled);
        table.change(i, WORTH, worth);
        return true;
    }

    public boolean away(int i) {
        if (!table.has(i)) {
            return false;
        }
        table.take(i);
        return true;
    }

    public int feed(int a, int b, int c, int d, int e) {
        if (tape.size + 20 > TAPE_BYTES) {
            return NONE;
        }
        tape.add(a);
        tape.add(b);
        tape.add(c);
        tape.add(d);
        tape.add(e);
        return tape.size;
    }

    public int pull(int n) {
        if (!within(n, 1, PULL_BYTES) || n > tape.size) {
            return NONE;
        }
        int fault = newPull.read(tape, n);
        tape.size = 0;
        if (fault != 0) {
            return fault;
        }
        drawn.copy(newPull);
        return drawn.ticks;
    }

    public int law(int n) {
        if (!within(n, 1, LAW_BYTES) || n > tape.size) {
            return NONE;
        }
        int fault = reader.read(tape, n);
        tape.size = 0;
        if (fault != 0) {
            return fault;
        }
        rules.copy(newRules);
        lawsRead++;
        return rules.clauses;
    }

    public int tried(int what) {
        tryDrawn();
        return evening.out.tell(what);
    }

    public int still(int what) {
        search.lay(table, drawn);
        evening.run();
        return evening.out.tell(what);
    }

    public int done() {
        if (drawn.ticks == 0) {
            return NONE;
        }
        tryDrawn();
        evening.out.leave(table);
        table.x = evening.hand.x;
        return evening.out.standing();
    }

    public int thingIs(int i, int what) {
        return table.has(i) && within(what, 0, SIDES - 1) ? table.side(i, what) : NONE;
    }

    public int pace() {
        search.lay(table, drawn);
        return search.leastPace();
    }

    public int best(int what) {
        if (!within(what, 0, 4)) {
            return NONE;
        }
        search.lay(table, drawn);
        search.bestPull(lawsRead);
        return search.bestIs(what);
    }

    public int put(int things, int what) {
        boolean member = within(what, 0, THINGS - 1) && (things & (1 << what)) != 0;
        if (!row.take(things, table.told) || !(member || within(what, 10, 12))) {
            return NONE;
        }
        search.lay(table, drawn);
        search.bestRow(row, table);
        if (what == 11) {
            return search.inches;
        }
        if (what < 10) {
            return row.whose(what);
        }
        if (what == 12) {
            row.chooseBest();
            row.change(table, search.table);
        }
        return search.standing;
    }

    public int most(int what) {
        if (!within(what, 0, 1)) {
            return NONE;
        }
        search.lay(table, drawn);
        int set = search.largestStanding();
        return what == 0 ? Integer.bitCount(set) : set;
    }

    public int worth(int q, int what) {
        boolean ironed = within(what, 0, 1) && table.hasFold(q);
        boolean dried = within(what, 2, 3) && table.has(q) && table.side(q, WET) != 0;
        if (!ironed && !dried) {
            return NO_WORTH;
        }
        search.lay(table, drawn);
        evening.run();
        int standing = evening.out.standing();
        int inches = evening.out.inches();
        if (ironed) {
            search.table.folds &= ~(1 << q);
        } else {
            search.table.change(q, WET, 0);
        }
        evening.run();
        boolean asksStanding = what == 0 || what == 2;
        return asksStanding ? evening.out.standing() - standing : inches - evening.out.inches();
    }

    public int wasWet(int what) {
        if (!within(what, 0, 2) || !canCompare()) {
            return NONE;
        }
        search.lay(table, drawn);
        search.findWet(tape);
        tape.size = 0;
        if (what == 0) {
            return search.fits;
        }
        if (search.fits == 0) {
            return NOBODY;
        }
        return what == 1 ? search.first : search.second;
    }

    public int howQuick(int what) {
        if (!within(what, 0, 1) || !canCompare()) {
            return NONE;
        }
        search.lay(table, drawn);
        search.findPaces(tape);
        tape.size = 0;
        if (what == 0) {
            return search.fits;
        }
        return search.fits == 0 ? NOBODY : search.first;
    }

    public int odds(int n, int standing, int what) {
        boolean fits = within(n, 1, 3) && within(standing, 0, THINGS) && within(what, 0, 1);
        if (!fits || drawn.ticks == 0) {
            return NONE;
        }
        search.lay(table, drawn);
        int all = hands(n);
        int good = search.countHands(n, all, standing);
        int divisor = commonDivisor(good, all);
        int asked = what == 0 ? good : all;
        return divisor == 0 ? asked : asked / divisor;
    }

    public int should(int n, int prize) {
        if (!within(n, 1, 3) || !within(prize, 0, 9999) || drawn.ticks == 0) {
            return NO_SHOULD;
        }
        search.lay(table, drawn);
        return search.sumHands(n, hands(n), prize);
    }

    public int practice(int spoilt, int tenths, int of) {
        if (!within(spoilt, 0, 10) || !within(tenths, 0, 9) || !within(of, 2, 9999)) {
            return NONE;
        }
        long millionths = spoilt * 100000L;
        int pulls = 0;
        // Nine tenths at most, rounded down: below a two-hundredth of a million well ahead of the bound.
        for (; pulls < MILLION && millionths * of >= MILLION; pulls++) {
            millionths = millionths * tenths / 10;
        }
        return pulls;
    }

    public boolean seed(int x) {
        if (!within(x, 0, 65535)) {
            return false;
        }
        table.x = x;
        return true;
    }

    public int keep() {
        kept.copy(table);
        isKept = true;
        return Integer.bitCount(table.told);
    }

    public boolean undo() {
        if (!isKept) {
            return false;
        }
        table.copy(kept);
        return true;
    }

    public int check(int n) {
        if (!within(n, 0, THINGS) || n * 4 > tape.size) {
            return WRONG_CHECK;
        }
        tape.size = 0;
        for (int i = 0; i < n; i++) {
            int right = table.has(i) ? table.side(i, PLACE) : 0;
            if (tape.number(i) != right) {
                return i;
            }
        }
        return NONE;
    }

    public int count(int what) {
        switch (what) {
            case 0:
                return table.length;
            case 1:
                return table.end;
            case 2:
                return table.folds;
            case 3:
                return table.told;
            case 4:
                return drawn.ticks;
            case 5:
                return rules.clauses;
            case 6:
                return tape.size;
            case 7:
                return table.x;
            default:
                return within(what, 100, 99 + drawn.ticks) ? drawn.paceAt(what - 100) : NONE;
        }
    }

    private void tryDrawn() {
        search.lay(table, drawn);
        evening.hand.drawFrom(table.x);
        evening.run();
    }

    private boolean canCompare() {
        return table.told != 0 && Integer.bitCount(table.told) <= tape.size;
    }

    private static boolean within(int value, int least, int most) {
        return value >= least && value <= most;
    }

    private static int hands(int n) {
        int all = 1;
        for (int i = 0; i < n && i < 3; i++) {
            all *= 10;
        }
        return all;
    }

    private static int commonDivisor(int a, int b) {
        int big = a;
        int small = b;
        for (int i = 0; i < 100 && small != 0; i++) {
            int rest = big % small;
            big = small;
            small = rest;
        }
        return big;
    }

    /** Table, cloth, things and X: all that is kept and undone. */
    private static final class Table {
        private int length = 100;
        private int end = 100;
        private int folds = 0;
        private int told = 0;
        private int x = 1;
        private final int[] sides = new int[THINGS * SIDES];

        boolean has(int i) {
            return within(i, 0, THINGS - 1) && (told & (1 << i)) != 0;
        }

        int side(int i, int what) {
            return within(i, 0, THINGS - 1) && within(what, 0, SIDES - 1) ? sides[i * SIDES + what] : 0;
        }

        void change(int i, int what, int value) {
            if (within(i, 0, THINGS - 1) && within(what, 0, SIDES - 1)) {
                sides[i * SIDES + what] = value;
            }
        }

        void take(int i) {
            told &= ~(1 << i);
        }

        int foldPlace(int q) {
            return q * length / FOLDS;
        }

        /** A fold that is not below the cloth's end is none. */
        boolean hasFold(int q) {
            return within(q, 0, FOLDS - 1) && (folds & (1 << q)) != 0 && foldPlace(q) < end;
        }

        /** Whether an evening without slips would be the same. */
        boolean isAs(Table other) {
            if (other == null || length != other.length || end != other.end || folds != other.folds
                || told != other.told) {
                return false;
            }
            for (int i = 0; i < sides.length; i++) {
                if (sides[i] != other.sides[i]) {
                    return false;
                }
            }
            return true;
        }

        void copy(Table from) {
            if (from == null) {
                return;
            }
            length = from.length;
            end = from.end;
            folds = from.folds;
            told = from.told;
            x = from.x;
            System.arraycopy(from.sides, 0, sides, 0, sides.length);
        }
    }

    /** The bytes that were fed; they stay readable when the size is set to 0, till the next feed. */
    private static final class Tape {
        private final int[] bytes = new int[TAPE_BYTES];
        private int size = 0;

        void add(int four) {
            for (int shift = 24; shift >= 0; shift -= 8) {
                if (size < TAPE_BYTES) {
                    bytes[size] = (four >>> shift) & 255;
                    size++;
                }
            }
        }

        int at(int i) {
            return within(i, 0, TAPE_BYTES - 1) ? bytes[i] : NONE;
        }

        int number(int i) {
            int first = i * 4;
            return (at(first) << 24) | (at(first + 1) << 16) | (at(first + 2) << 8) | at(first + 3);
        }
    }

    /** The paces of a pull, tick by tick, and how they are read from a text. */
    private static final class Pull {
        private final int[] paces = new int[PULL_TICKS];
        private int ticks = 0;

        int paceAt(int tick) {
            return tick >= 0 && tick < ticks && tick < PULL_TICKS ? paces[tick] : 0;
        }

        void copy(Pull from) {
            if (from == null) {
                return;
            }
            ticks = from.ticks;
            System.arraycopy(from.paces, 0, paces, 0, PULL_TICKS);
        }

        void add(int pace, int many) {
            for (int i = 0; i < many && ticks < PULL_TICKS; i++) {
                paces[ticks] = pace;
                ticks++;
            }
        }

        /** As many ticks of a pace behind those told as the cloth needs for the rest of its way, 60 in all. */
        void addTill(int pace, int way) {
            if (pace > 0 && way > 0) {
                add(pace, (way + pace - 1) / pace);
            }
        }

        void even(int pace, int way) {
            ticks = 0;
            addTill(pace, way);
        }

        /** Answers 0, or the fault. */
        int read(Tape tape, int n) {
            if (tape == null) {
                return fault(FAULT_STANDS, 0);
            }
            ticks = 0;
            int at = 0;
            for (int step = 0; step <= PULL_STEPS; step++) {
                int first = at;
                if (digit(tape, at, n) < 0) {
                    return fault(FAULT_STANDS, at);
                }
                if (step == PULL_STEPS) {
                    return fault(FAULT_MANY, at);
                }
                int pace = digit(tape, at, n);
                at++;
                if (digit(tape, at, n) >= 0) {
                    pace = pace * 10 + digit(tape, at, n);
                    at++;
                }
                if (pace > HIGHEST_PACE) {
                    return fault(FAULT_PACE, first);
                }
                int many = 1;
                if (at < n && tape.at(at) == '*') {
                    many = digit(tape, at + 1, n);
                    if (many < 2) {
                        return fault(FAULT_STANDS, at + 1);
                    }
                    at += 2;
                }
                if (ticks + many > PULL_TICKS) {
                    return fault(FAULT_TICKS, first);
                }
                add(pace, many);
                if (at >= n) {
                    return 0;
                }
                if (tape.at(at) != ',') {
                    return fault(FAULT_STANDS, at);
                }
                at++;
            }
            return fault(FAULT_MANY, at);
        }

        private static int digit(Tape tape, int at, int n) {
            int sign = tape != null && at < n ? tape.at(at) : NONE;
            return within(sign, '0', '9') ? sign - '0' : NONE;
        }

        private static int fault(int kind, int place) {
            return -1000 * kind - place;
        }
    }

    /** The clauses as short programs for a stack of numbers, and what they are asked about. */
    private static final class Law {
        private static final int CODE = 256;
        private static final int DEPTH = 32;
        private static final int STOP = 0;
        private static final int NUMBER = 1;
        private static final int LETTER = 2;
        private static final int NOT = 3;
        private static final int AND = 4;
        private static final int OR = 5;
        private static final int PLUS = 6;
        private static final int MINUS = 7;
        private static final int TIMES = 8;
        private static final int THROUGH = 9;
        private static final int REST = 10;
        private static final int LESS = 11;
        private static final int ABOVE = 12;
        private static final int LIKE = 13;

        private final int[] ops = new int[CODE];
        private final int[] args = new int[CODE];
        private int size = 0;
        private final int[] letters = new int[LAW_CLAUSES];
        private final int[] amounts = new int[LAW_CLAUSES];
        private final int[] conditions = new int[LAW_CLAUSES];
        private int clauses = 0;
        private final int[] told = new int[12];
        private final int[] stack = new int[DEPTH];

        void clear() {
            size = 0;
            clauses = 0;
        }

        /** What is not told is 0. */
        void forget() {
            for (int i = 0; i < told.length; i++) {
                told[i] = 0;
            }
        }

        void copy(Law from) {
            if (from == null) {
                return;
            }
            size = from.size;
            clauses = from.clauses;
            System.arraycopy(from.ops, 0, ops, 0, CODE);
            System.arraycopy(from.args, 0, args, 0, CODE);
            System.arraycopy(from.letters, 0, letters, 0, LAW_CLAUSES);
            System.arraycopy(from.amounts, 0, amounts, 0, LAW_CLAUSES);
            System.arraycopy(from.conditions, 0, conditions, 0, LAW_CLAUSES);
        }

        int emit(int op, int arg) {
            if (size >= CODE) {
                return NONE;
            }
            ops[size] = op;
            args[size] = arg;
            size++;
            return size - 1;
        }

        /** Lets a chain of jumps, each of which holds the one before it, end here. */
        void landHere(int last) {
            int jump = last;
            for (int i = 0; i < CODE && jump >= 0 && jump < CODE; i++) {
                int before = args[jump];
                args[jump] = size;
                jump = before;
            }
        }

        void addClause(int letter, int amount, int condition) {
            if (clauses < LAW_CLAUSES) {
                letters[clauses] = letter;
                amounts[clauses] = amount;
                conditions[clauses] = condition;
                clauses++;
            }
        }

        /** What the first clause of a letter whose condition holds says, within the letter's bounds. */
        int ask(int letter) {
            if (!within(letter, 0, 5)) {
                return 0;
            }
            int amount = 0;
            for (int i = 0; i < clauses && i < LAW_CLAUSES; i++) {
                if (letters[i] == letter && reckon(conditions[i]) != 0) {
                    amount = reckon(amounts[i]);
                    break;
                }
            }
            return Math.max(LAW_LEAST[letter], Math.min(amount, LAW_MOST[letter]));
        }

        /** The number that a program leaves; 0, thus not holding, too, if it divides by 0 anywhere. */
        private int reckon(int start) {
            int top = 0;
            for (int at = start; at >= 0 && at < size && at < CODE && ops[at] != STOP; at++) {
                int op = ops[at];
                int arg = args[at];
                if (op == NUMBER || op == LETTER) {
                    if (top >= DEPTH) {
                        return 0;
                    }
                    stack[top] = op == NUMBER ? arg : toldOf(arg);
                    top++;
                } else if (top < 1) {
                    return 0;
                } else if (op == NOT) {
                    stack[top - 1] = 1 - stack[top - 1];
                } else if (op == AND || op == OR) {
                    boolean decided = (stack[top - 1] != 0) == (op == OR);
                    // A decided one goes on behind the whole row with its answer left on the stack.
                    at = decided ? Math.max(at, arg - 1) : at;
                    top = decided ? top : top - 1;
                } else if (top < 2 || stack[top - 1] == 0 && (op == THROUGH || op == REST)) {
                    return 0;
                } else {
                    top--;
                    stack[top - 1] = join(op, stack[top - 1], stack[top]);
                }
            }
            return top > 0 ? stack[top - 1] : 0;
        }

        private int toldOf(int letter) {
            return letter >= 0 && letter < 12 ? told[letter] : 0;
        }

        private static int join(int op, int a, int b) {
            switch (op) {
                case PLUS:
                    return a + b;
                case MINUS:
                    return a - b;
                case TIMES:
                    return a * b;
                case THROUGH:
                    return b == 0 ? 0 : a / b;
                case REST:
                    return b == 0 ? 0 : a % b;
                case LESS:
                    return a < b ? 1 : 0;
                case ABOVE:
                    return a > b ? 1 : 0;
                default:
                    return a == b ? 1 : 0;
            }
        }
    }

    /** Reads a law's text once, from the left; behind a fault no sign is seen any more. */
    private static final class LawReader {
        private final Law into;
        private final int[] text = new int[LAW_BYTES];
        private int length = 0;
        private int at = 0;
        private int fault = 0;

        LawReader(Law into) {
            this.into = into;
        }

        /** Answers 0, or the fault. */
        int read(Tape tape, int n) {
            length = 0;
            for (int i = 0; tape != null && i < n && i < LAW_BYTES; i++) {
                text[i] = tape.at(i);
                length++;
            }
            at = 0;
            fault = 0;
            into.clear();
            clause();
            for (int i = 0; i < LAW_BYTES && sign() == ';'; i++) {
                at++;
                clause();
            }
            if (fault == 0 && at < length) {
                fail(FAULT_STANDS);
            }
            return fault;
        }

        private int sign() {
            return fault == 0 && at >= 0 && at < length && at < LAW_BYTES ? text[at] : NONE;
        }

        private void fail(int kind) {
            if (fault == 0) {
                fault = -1000 * kind - at;
            }
        }

        private void pass(int wanted) {
            if (sign() == wanted) {
                at++;
            } else {
                fail(FAULT_STANDS);
            }
        }

        /** Passes a ( [ or ! that is to stand inside so many open ones, if one more may be. */
        private boolean opens(int open) {
            if (open >= LAW_OPEN) {
                fail(FAULT_OPEN);
                return false;
            }
            at++;
            return true;
        }

        private void clause() {
            int letter = sign() == NONE ? NONE : LAW_LETTERS.indexOf((char) sign());
            if (letter < 0) {
                fail(FAULT_STANDS);
                return;
            }
            if (into.clauses >= LAW_CLAUSES) {
                fail(FAULT_MANY);
                return;
            }
            at++;
            int amount = into.size;
            sum(0);
            into.emit(Law.STOP, 0);
            int condition = into.size;
            pass('(');
            parts(1);
            pass(')');
            into.emit(Law.STOP, 0);
            into.addClause(letter, amount, condition);
        }

        private void parts(int open) {
            pieces(open);
            int jumps = NONE;
            for (int i = 0; i < LAW_BYTES && sign() == '|'; i++) {
                at++;
                jumps = into.emit(Law.OR, jumps);
                pieces(open);
            }
            into.landHere(jumps);
        }

        private void pieces(int open) {
            piece(open);
            int jumps = NONE;
            for (int i = 0; i < LAW_BYTES && sign() == '&'; i++) {
                at++;
                jumps = into.emit(Law.AND, jumps);
                piece(open);
            }
            into.landHere(jumps);
        }

        private void piece(int open) {
            if (sign() == '!') {
                if (opens(open)) {
                    piece(open + 1);
                    into.emit(Law.NOT, 0);
                }
            } else if (sign() == '(') {
                if (opens(open)) {
                    parts(open + 1);
                    pass(')');
                }
            } else {
                comparison(open);
            }
        }

        private void comparison(int open) {
            sum(open);
            int op = NONE;
            if (sign() == '<') {
                op = Law.LESS;
            } else if (sign() == '>') {
                op = Law.ABOVE;
            } else if (sign() == '=') {
                op = Law.LIKE;
            }
            if (op == NONE) {
                fail(FAULT_STANDS);
                return;
            }
            at++;
            sum(open);
            into.emit(op, 0);
        }

        private void sum(int open) {
            product(open);
            for (int i = 0; i < LAW_BYTES && (sign() == '+' || sign() == '-'); i++) {
                int op = sign() == '+' ? Law.PLUS : Law.MINUS;
                at++;
                product(open);
                into.emit(op, 0);
            }
        }

        private void product(int open) {
            factor(open);
            for (int i = 0; i < LAW_BYTES && (sign() == '*' || sign() == '/' || sign() == '%'); i++) {
                int op = sign() == '*' ? Law.TIMES : sign() == '/' ? Law.THROUGH : Law.REST;
                at++;
                factor(open);
                into.emit(op, 0);
            }
        }

        private void factor(int open) {
            if (sign() == '[') {
                if (opens(open)) {
                    sum(open + 1);
                    pass(']');
                }
                return;
            }
            if (within(sign(), '0', '9')) {
                number();
                return;
            }
            int letter = sign() == NONE ? NONE : TOLD_LETTERS.indexOf((char) sign());
            if (letter < 0) {
                fail(FAULT_STANDS);
                return;
            }
            at++;
            into.emit(Law.LETTER, letter);
        }

        private void number() {
            int value = 0;
            for (int digits = 0; digits < 5 && within(sign(), '0', '9'); digits++) {
                value = value * 10 + sign() - '0';
                at++;
            }
            if (within(sign(), '0', '9')) {
                fail(FAULT_DIGITS);
            }
            into.emit(Law.NUMBER, value);
        }
    }

    /** How the hand slips: not at all, by the draws that come, or by told draws of the first ticks. */
    private static final class Hand {
        private boolean draws = false;
        private int x = 1;
        private int toldTicks = 0;
        private int toldDraws = 0;

        void holdStill() {
            draws = false;
            toldTicks = 0;
        }

        void drawFrom(int seed) {
            draws = true;
            x = seed;
        }

        /** The digits of a number are the draws, the last one that of the first tick. */
        void drawTold(int ticks, int digits) {
            draws = false;
            toldTicks = ticks;
            toldDraws = digits;
        }

        /** The draw of the next tick of the pull; NONE: the hand does not slip in it. */
        int draw(int tick) {
            if (draws) {
                x = (25173 * x + 13849) & 65535;
                return x % 10;
            }
            if (tick >= toldTicks) {
                return NONE;
            }
            int draw = toldDraws % 10;
            toldDraws /= 10;
            return draw;
        }
    }

    /** How an evening ended, and what went on in it. */
    private static final class Outcome {
        private static final int BY_CLOTH = 0;
        private static final int BY_WOOD = 1;
        private static final int BY_TOUCH = 2;

        private final int[] place = new int[THINGS];
        private final int[] filled = new int[THINGS];
        private final int[] led = new int[3 * THINGS];
        private int told = 0;
        private int fallen = 0;
        private int over = 0;
        private int rocked = 0;
        private int touched = 0;
        private int spilt = 0;
        private int ticks = 0;
        private int end = 0;

        void begin(Table table) {
            if (table == null) {
                return;
            }
            for (int i = 0; i < THINGS; i++) {
                place[i] = table.side(i, PLACE);
                filled[i] = table.side(i, FILLED);
            }
            for (int i = 0; i < led.length; i++) {
                led[i] = 0;
            }
            told = table.told;
            fallen = 0;
            over = 0;
            rocked = 0;
            touched = 0;
            spilt = 0;
            ticks = 0;
            end = table.end;
        }

        void lead(int i, int by, int way) {
            if (within(i, 0, THINGS - 1) && within(by, 0, 2)) {
                led[by * THINGS + i] += way;
            }
        }

        int placeOf(int i) {
            return within(i, 0, THINGS - 1) ? place[i] : NONE;
        }

        int standingSet() {
            return told & ~(fallen | over);
        }

        int standing() {
            return Integer.bitCount(standingSet());
        }

        boolean allStand() {
            return standingSet() == told;
        }

        int inches() {
            int all = 0;
            for (int i = 0; i < led.length; i++) {
                all += led[i];
            }
            return all;
        }

        int tell(int what) {
            switch (what) {
                case 0:
                    return standing();
                case 1:
                    return inches();
                case 2:
                    return ticks;
                case 3:
                    return end;
                case 4:
                    return fallen;
                case 5:
                    return over;
                case 6:
                    return rocked;
                case 7:
                    return touched;
                case 8:
                    return spilt;
                default:
                    return within(what, 10, 69) ? tellThing(what % 10, what / 10) : NONE;
            }
        }

        private int tellThing(int i, int what) {
            if (!within(i, 0, THINGS - 1) || (told & (1 << i)) == 0) {
                return NONE;
            }
            switch (what) {
                case 1:
                    return isOver(i) ? NONE : place[i];
                case 2:
                    return led[i] + led[THINGS + i] + led[2 * THINGS + i];
                case 3:
                    return led[i];
                case 4:
                    return led[THINGS + i];
                case 5:
                    return led[2 * THINGS + i];
                default:
                    return filled[i];
            }
        }

        private boolean isOver(int i) {
            return (over & (1 << i)) != 0;
        }

        /** Whether the told things are where the first bytes of a tape say. */
        boolean isAsTold(Tape tape) {
            int byThing = 0;
            for (int i = 0; tape != null && i < THINGS; i++) {
                if ((told & (1 << i)) != 0) {
                    int right = isOver(i) ? OVER_BYTE : place[i];
                    if (tape.at(byThing) != right) {
                        return false;
                    }
                    byThing++;
                }
            }
            return true;
        }

        /** What the things that do not stand are worth. */
        int loss(Table table) {
            int all = 0;
            for (int i = 0; table != null && i < THINGS; i++) {
                if ((told & (fallen | over) & (1 << i)) != 0) {
                    all += table.side(i, WORTH);
                }
            }
            return all;
        }

        /** The table is left as the evening ended. */
        void leave(Table table) {
            if (table == null) {
                return;
            }
            for (int i = 0; i < THINGS; i++) {
                if (isOver(i)) {
                    table.take(i);
                } else if (table.has(i)) {
                    table.change(i, PLACE, place[i]);
                    table.change(i, FILLED, filled[i]);
                    if ((fallen & (1 << i)) != 0) {
                        table.change(i, HEIGHT, 1);
                    }
                }
            }
            table.end = end;
        }
    }

    /** An evening of a table and a pull of its own, by a law and a hand, tick by tick. */
    private static final class Evening {
        private final Table table = new Table();
        private final Pull pull = new Pull();
        private final Hand hand = new Hand();
        private final Outcome out = new Outcome();
        private final Law law;
        private final int[] speed = new int[THINGS];
        private final int[] ahead = new int[THINGS];
        private final int[] line = new int[THINGS];
        private final int[] folds = new int[FOLDS];
        private int foldCount = 0;
        private int inLine = 0;
        private int gone = 0;
        private int quick = 0;
        private int onCloth = 0;
        private int touching = 0;

        Evening(Law law) {
            this.law = law;
        }

        void run() {
            begin();
            for (int t = 0; t < EVENING_TICKS && (t < pull.ticks || moves()); t++) {
                tick(t);
                out.ticks = t + 1;
            }
        }

        private void begin() {
            out.begin(table);
            gone = 0;
            for (int i = 0; i < THINGS; i++) {
                speed[i] = 0;
            }
            foldCount = 0;
            for (int q = 0; q < FOLDS; q++) {
                if (table.hasFold(q)) {
                    folds[foldCount] = table.foldPlace(q);
                    foldCount++;
                }
            }
        }

        private boolean moves() {
            int standing = out.standingSet();
            for (int i = 0; i < THINGS; i++) {
                if (speed[i] > 0 && (standing & (1 << i)) != 0) {
                    return true;
                }
            }
            return false;
        }

        private void tick(int t) {
            pullCloth(t);
            onCloth = 0;
            touching = 0;
            int standing = out.standingSet();
            for (int i = 0; i < THINGS; i++) {
                if ((standing & (1 << i)) != 0) {
                    int was = speed[i];
                    feelCloth(i);
                    shake(i, Math.abs(speed[i] - was));
                }
            }
            standing = out.standingSet();
            for (int i = 0; i < THINGS; i++) {
                if ((standing & (1 << i)) != 0) {
                    slide(i);
                }
            }
            lineUp();
            for (int k = 0; k + 1 < inLine && k + 1 < THINGS; k++) {
                touch(line[k], line[k + 1]);
            }
            standing = out.standingSet();
            for (int i = 0; i < THINGS; i++) {
                if ((standing & (1 << i)) != 0) {
                    lead(i);
                }
            }
            out.touched |= touching;
        }

        private void pullCloth(int t) {
            int pace = pull.paceAt(t);
            int draw = t < pull.ticks ? hand.draw(t) : NONE;
            int slip = 0;
            law.forget();
            law.told[TOLD_TICK] = t;
            law.told[TOLD_PACE] = pace;
            if (draw != NONE) {
                law.told[TOLD_DRAW] = draw;
                slip = law.ask(SLIPS);
                law.told[TOLD_DRAW] = 0;
            }
            quick = Math.max(0, pace - slip);
            gone += quick;
            out.end = Math.max(0, out.end - quick);
        }

        /** A standing thing gets quicker or slower by what is beneath it. */
        private void feelCloth(int i) {
            int was = speed[i];
            boolean cloth = out.place[i] < out.end;
            boolean jerked = cloth && foldPassed(out.place[i]);
            onCloth |= cloth ? 1 << i : 0;
            if (was == (cloth ? quick : 0) && !jerked) {
                return;
            }
            describe(i);
            if (!cloth) {
                speed[i] = Math.max(0, was - law.ask(SLOWER));
            } else if (was > quick) {
                speed[i] = was - 1;
            } else {
                speed[i] = Math.min(was + law.ask(QUICKER), quick);
            }
            if (jerked) {
                speed[i] += law.ask(JERKS);
            }
        }

        /** The law is asked about a thing as it is at the beginning of the tick's second part. */
        private void describe(int i) {
            law.told[TOLD_NUMBER] = i;
            law.told[TOLD_KIND] = table.side(i, KIND);
            law.told[TOLD_PLACE] = out.place[i];
            law.told[TOLD_FOOT] = table.side(i, FOOT);
            law.told[TOLD_WEIGHT] = table.side(i, WEIGHT);
            law.told[TOLD_WET] = table.side(i, WET);
            law.told[TOLD_FILLED] = out.filled[i];
            law.told[TOLD_SPEED] = speed[i];
            law.told[TOLD_QUICK] = quick;
        }

        private boolean foldPassed(int place) {
            for (int f = 0; f < foldCount && f < FOLDS; f++) {
                int now = folds[f] - gone;
                if (now < place && now + quick >= place) {
                    return true;
                }
            }
            return false;
        }

        /** A thing whose speed has changed may rock, fall and spill: the law is asked as it was described. */
        private void shake(int i, int change) {
            if (change == 0) {
                return;
            }
            int foot = table.side(i, FOOT);
            int tilt = foot > 0 ? change * table.side(i, HEIGHT) / foot : 0;
            int bears = law.ask(BEARS);
            if (out.filled[i] > 0 && change > law.ask(SPILLS)) {
                out.filled[i]--;
                out.spilt |= 1 << i;
            }
            if (tilt > bears) {
                out.fallen |= 1 << i;
                speed[i] = 0;
            } else if (tilt > bears / 2) {
                out.rocked |= 1 << i;
            }
        }

        private void slide(int i) {
            ahead[i] = out.place[i];
            out.place[i] -= speed[i];
            if (out.place[i] < 0) {
                out.over |= 1 << i;
                lead(i);
            }
        }

        /** Those that stand yet, from the edge on, of like places the lower number first. */
        private void lineUp() {
            inLine = 0;
            int standing = out.standingSet();
            for (int i = 0; i < THINGS; i++) {
                if ((standing & (1 << i)) != 0) {
                    int hole = inLine;
                    for (; hole > 0 && hole < THINGS && out.placeOf(line[hole - 1]) > out.place[i]; hole--) {
                        line[hole] = line[hole - 1];
                    }
                    if (hole >= 0 && hole < THINGS) {
                        line[hole] = i;
                        inLine++;
                    }
                }
            }
        }

        private void touch(int front, int behind) {
            if (!within(front, 0, THINGS - 1) || !within(behind, 0, THINGS - 1)) {
                return;
            }
            int near = (table.side(front, FOOT) + table.side(behind, FOOT)) / 2;
            if (out.place[behind] - out.place[front] >= near || speed[behind] <= speed[front]) {
                return;
            }
            int weightInFront = table.side(front, WEIGHT);
            int weightBehind = table.side(behind, WEIGHT);
            int together = weightInFront + weightBehind;
            int push = speed[front] * weightInFront + speed[behind] * weightBehind;
            speed[front] = together > 0 ? push / together : 0;
            speed[behind] = speed[front];
            out.place[behind] = Math.min(out.place[front] + near, ahead[behind]);
            touching |= 1 << front | 1 << behind;
        }

        private void lead(int i) {
            int by = (onCloth & (1 << i)) != 0 ? Outcome.BY_CLOTH : Outcome.BY_WOOD;
            if ((touching & (1 << i)) != 0) {
                by = Outcome.BY_TOUCH;
            }
            out.lead(i, by, ahead[i] - out.place[i]);
        }
    }

    /** Things that change their places among them: whose place each gets, row by row. */
    private static final class Row {
        private static final int MOST = 5;
        private final int[] members = new int[MOST];
        private final int[] gets = new int[MOST];
        private final int[] bestGets = new int[MOST];
        private int size = 0;

        boolean take(int things, int told) {
            int many = Integer.bitCount(things);
            if ((things & ~told) != 0 || !within(many, 2, MOST)) {
                return false;
            }
            size = 0;
            for (int i = 0; i < THINGS && size < MOST; i++) {
                if ((things & (1 << i)) != 0) {
                    members[size] = i;
                    gets[size] = i;
                    size++;
                }
            }
            return true;
        }

        void change(Table to, Table from) {
            for (int k = 0; k < size && k < MOST && to != null && from != null; k++) {
                to.change(members[k], PLACE, from.side(gets[k], PLACE));
            }
        }

        void markBest() {
            System.arraycopy(gets, 0, bestGets, 0, MOST);
        }

        void chooseBest() {
            System.arraycopy(bestGets, 0, gets, 0, MOST);
        }

        int whose(int i) {
            for (int k = 0; k < size && k < MOST; k++) {
                if (members[k] == i) {
                    return bestGets[k];
                }
            }
            return NONE;
        }

        /** The next larger row; false: there is none. */
        boolean next() {
            int rise = Math.min(size, MOST) - 2;
            while (rise >= 0 && gets[rise] > gets[rise + 1]) {
                rise--;
            }
            if (rise < 0) {
                return false;
            }
            int larger = Math.min(size, MOST) - 1;
            while (larger > rise + 1 && gets[larger] < gets[rise]) {
                larger--;
            }
            swap(rise, larger);
            for (int low = rise + 1, high = size - 1; low < high; low++, high--) {
                swap(low, high);
            }
            return true;
        }

        private void swap(int one, int other) {
            if (within(one, 0, MOST - 1) && within(other, 0, MOST - 1)) {
                int held = gets[one];
                gets[one] = gets[other];
                gets[other] = held;
            }
        }
    }

    /** Evenings that are tried one behind the other on a copy of the table, and the best of them. */
    private static final class Search {
        private final Evening evening;
        private final Table table;
        private final Pull pull;
        private final Outcome out;
        private int standing = 0;
        private int inches = 0;
        private int first = 0;
        private int second = 0;
        private int fits = 0;
        private final int[] best = new int[5];
        private final Table bestTable = new Table();
        private int bestLaw = NONE;

        Search(Law law) {
            evening = new Evening(law);
            table = evening.table;
            pull = evening.pull;
            out = evening.out;
        }

        /** Makes ready for evenings of a table by a pull without slips. */
        void lay(Table from, Pull by) {
            table.copy(from);
            pull.copy(by);
            evening.hand.holdStill();
        }

        int leastPace() {
            for (int pace = 1; pace <= HIGHEST_PACE; pace++) {
                pull.even(pace, table.end);
                evening.run();
                if (out.allStand()) {
                    return pace;
                }
            }
            return NOBODY;
        }

        /** Whether the evening is better than all since the best was set to none; then it is the best. */
        private boolean improves() {
            int stand = out.standing();
            int way = out.inches();
            if (stand < standing || stand == standing && way >= inches) {
                return false;
            }
            standing = stand;
            inches = way;
            return true;
        }

        int bestIs(int what) {
            return within(what, 0, best.length - 1) ? best[what] : NONE;
        }

        /** The five answers are asked one by one: they are kept while the table and the law are the same. */
        void bestPull(int lawNumber) {
            if (lawNumber == bestLaw && table.isAs(bestTable)) {
                return;
            }
            bestLaw = lawNumber;
            bestTable.copy(table);
            standing = NONE;
            for (int p = 1; p <= 12; p++) {
                for (int q = 1; q <= 12; q++) {
                    for (int k = 1; k <= 6; k++) {
                        pull.ticks = 0;
                        pull.add(p, k);
                        pull.addTill(q, table.end - p * k);
                        evening.run();
                        if (improves()) {
                            best[0] = p;
                            best[1] = q;
                            best[2] = k;
                        }
                    }
                }
            }
            best[3] = standing;
            best[4] = inches;
        }

        void bestRow(Row row, Table from) {
            if (row == null || from == null) {
                return;
            }
            standing = NONE;
            boolean more = true;
            for (int i = 0; i < 120 && more; i++) {
                row.change(table, from);
                evening.run();
                if (improves()) {
                    row.markBest();
                }
                more = row.next();
            }
            table.copy(from);
        }

        int largestStanding() {
            int all = table.told;
            int best = 0;
            for (int set = 1; set < 1 << THINGS; set++) {
                if ((set & ~all) == 0 && Integer.bitCount(set) > Integer.bitCount(best)) {
                    table.told = set;
                    evening.run();
                    best = out.allStand() ? set : best;
                }
            }
            table.told = all;
            return best;
        }

        void findWet(Tape tape) {
            fits = 0;
            for (int i = 0; i < THINGS; i++) {
                int told = table.side(i, WET);
                for (int wet = 0; wet <= 9 && table.has(i); wet++) {
                    if (wet != told) {
                        table.change(i, WET, wet);
                        evening.run();
                        noteFit(tape, i, wet);
                    }
                }
                table.change(i, WET, told);
            }
        }

        void findPaces(Tape tape) {
            fits = 0;
            for (int pace = 1; pace <= HIGHEST_PACE; pace++) {
                pull.even(pace, table.end);
                evening.run();
                noteFit(tape, pace, 0);
            }
        }

        private void noteFit(Tape tape, int one, int other) {
            if (!out.isAsTold(tape)) {
                return;
            }
            if (fits == 0) {
                first = one;
                second = other;
            }
            fits++;
        }

        int countHands(int n, int all, int wanted) {
            int good = 0;
            for (int digits = 0; digits < all; digits++) {
                evening.hand.drawTold(n, digits);
                evening.run();
                good += out.standing() >= wanted ? 1 : 0;
            }
            return good;
        }

        int sumHands(int n, int all, int prize) {
            int sum = 0;
            for (int digits = 0; digits < all; digits++) {
                evening.hand.drawTold(n, digits);
                evening.run();
                sum += (out.allStand() ? prize : 0) - out.loss(table);
            }
            return sum;
        }
    }
}
