/**
 * Scaffolding round an idea that somebody has not quite had: a text tells its parts, poles are put
 * and struck, it rains, and what does not stand is lost. The promises are those of DOC.md.
 */
public final class IdeaCage {
    public static final int UNKNOWN = -1, BAD = -2, LATE = -3, FULL = -4, NONE = -9;

    private static final int COLUMNS = 4;
    private static final int CELLS = 16;
    private static final int KINDS = 4;
    private static final int LIFTS = 4;
    private static final int MOST_POLES = 4;
    private static final int MOST_PARTS = 7;
    private static final int MOST_SOON = 4;
    private static final int MOST_DOINGS = 4;
    private static final int MOST_TERMS = 30;
    private static final int SLOTS = 2;
    private static final int CHOICES = 3;

    private static final int PLAIN = 0;
    private static final int KEY = 1;
    private static final int STAIR = 2;
    private static final int AIR = 3;

    // Sets of cells are bits, cell 0 the lowest.
    private static final int ALL_CELLS = 0xFFFF;
    private static final int GROUND = 0x000F;
    private static final int COLUMN_0 = 0x1111;
    private static final int COLUMN_3 = 0x8888;

    private final Text text = new Text();
    private final Plan plan = new Plan();
    private final Acts acts = new Acts();
    private final Tries tries = new Tries();
    private final boolean[] kept = new boolean[SLOTS];
    private final int[] keptFrames = new int[SLOTS];
    private final int[] keptRains = new int[SLOTS];
    private int now = 0;
    private int rains = 0;
    private long theSeed = 0L;

    public IdeaCage() {
    }

    // ---- the idea

    public int write(int letter) {
        if (letter < 0 || letter > 255) {
            return BAD;
        }
        return text.append(letter) ? text.length : FULL;
    }

    public int wipe() {
        int was = text.length;
        text.length = 0;
        return was;
    }

    public int fault() {
        return text.firstFault();
    }

    public int idea() {
        if (text.firstFault() != NONE) {
            return LATE;
        }
        plan.learn(text);
        now = 0;
        rains = 0;
        acts.count = 0;
        for (int slot = 0; slot < kept.length; slot++) {
            kept[slot] = false;
        }
        return 10 * plan.poles + plan.parts;
    }

    public int about(int what) {
        switch (what) {
            case 0:
                return plan.parts;
            case 1:
                return plan.store(now);
            case 2:
                return allPoles();
            case 3:
                return plan.partsAt(Frame.had(now));
            case 4:
                return rains;
            case 5:
                return plan.partsAt(plan.standing(Frame.had(now), 0));
            case 6:
                return acts.count;
            case 7:
                return tries.count;
            case 8:
                return text.length;
            default:
                return BAD;
        }
    }

    public int part(int part, int what) {
        if (!plan.isPart(part)) {
            return UNKNOWN;
        }
        int cell = plan.cellOf(part);
        switch (what) {
            case 0:
                return cell;
            case 1:
                return plan.kindOf(part);
            case 2:
                return Frame.had(now) >> cell & 1;
            case 3:
                return Frame.poles(now) >> cell & 1;
            default:
                return BAD;
        }
    }

    public int column(int column) {
        return isColumn(column) ? Frame.height(now, column) : UNKNOWN;
    }

    public int at(int cell) {
        return cell >= 0 && cell < CELLS ? plan.partIn(cell) : UNKNOWN;
    }

    // ---- acts

    public int put(int column) {
        if (!isColumn(column)) {
            return UNKNOWN;
        }
        if (plan.store(now) == 0) {
            return LATE;
        }
        if (Frame.height(now, column) >= MOST_POLES) {
            return FULL;
        }
        acts.remember(now, rains);
        now = plan.withPut(now, column);
        return Frame.countHad(now);
    }

    public int strike(int column) {
        if (!isColumn(column)) {
            return UNKNOWN;
        }
        if (!plan.canStrike(now, column)) {
            return LATE;
        }
        acts.remember(now, rains);
        int before = Frame.countHad(now);
        now = plan.withStruck(now, column);
        return before - Frame.countHad(now);
    }

    public int rain() {
        acts.remember(now, rains);
        int before = Frame.countHad(now);
        now = plan.withRain(now);
        rains++;
        return before - Frame.countHad(now);
    }

    public int undo() {
        if (acts.count == 0) {
            return LATE;
        }
        now = acts.lastFrame();
        rains = acts.lastRains();
        acts.count--;
        return acts.count;
    }

    // ---- what would be

    public int loses(int column) {
        if (!isColumn(column)) {
            return UNKNOWN;
        }
        if (!plan.canStrike(now, column)) {
            return LATE;
        }
        int struck = plan.withStruck(now, column);
        return plan.partsAt(Frame.had(now) & ~Frame.had(struck));
    }

    public int down(int column) {
        if (!isColumn(column)) {
            return UNKNOWN;
        }
        int frame = now;
        for (int struck = 0; struck < MOST_POLES && plan.canStrike(frame, column); struck++) {
            int next = plan.withStruck(frame, column);
            if (Frame.had(next) != Frame.had(now)) {
                break;
            }
            frame = next;
        }
        return Frame.height(frame, column);
    }

    public int soon(int parts, int what) {
        if (parts < 0 || parts >= 1 << plan.parts || !isCountOrFirst(what)) {
            return BAD;
        }
        int wanted = plan.cellsOf(parts);
        for (int count = 0; count <= MOST_SOON; count++) {
            int row = leastRow(plan, now, wanted, count);
            if (row != NONE) {
                return what == 0 ? count : row;
            }
        }
        return NONE;
    }

    public int judge(int n, long row) {
        if (n < 1 || n > MOST_DOINGS || row < 0 || row >= powerOfTen(3 * n)) {
            return BAD;
        }
        int frame = now;
        for (int place = 0; place < n; place++) {
            int doing = doingFromEnd(row, n - 1 - place);
            if (!canBe(frame, doing)) {
                return place;
            }
            frame = withDoing(frame, doing);
        }
        return NONE;
    }

    public int share(int part, boolean upper) {
        if (!plan.isPart(part)) {
            return UNKNOWN;
        }
        int own = 1 << part;
        int sum = 0;
        for (int others = 0; others < 1 << plan.parts; others++) {
            if ((others & own) == 0) {
                int gain = plan.countStanding(others | own) - plan.countStanding(others);
                sum += gain * ordersWith(Integer.bitCount(others));
            }
        }
        return told(sum, factorial(plan.parts), upper);
    }

    // ---- tried

    public int attempt(int about, int stood) {
        if (about < 0 || about > 31 || stood < 0 || stood > 1) {
            return BAD;
        }
        return tries.add(about, stood == 1) ? tries.count : FULL;
    }

    public int unattempt() {
        int was = tries.count;
        tries.count = 0;
        return was;
    }

    public int kinds(int what) {
        if (!isCountOrFirst(what)) {
            return BAD;
        }
        int count = 0;
        int first = NONE;
        for (int kind = 0; kind < KINDS; kind++) {
            for (int lift = 0; lift < LIFTS; lift++) {
                if (tries.agreeWith(kind, lift)) {
                    first = count == 0 ? 10 * kind + lift : first;
                    count++;
                }
            }
        }
        return what == 0 ? count : first;
    }

    // ---- rests, chances

    public int rests(int one, int other, int what) {
        if (!isColumn(one) || !isColumn(other)) {
            return UNKNOWN;
        }
        if (one == other || !isCountOrFirst(what)) {
            return BAD;
        }
        int count = 0;
        int first = NONE;
        for (int choice = 0; choice < CHOICES; choice++) {
            for (int answer = 0; answer < CHOICES; answer++) {
                if (isRest(one, other, choice, answer)) {
                    first = count == 0 ? 10 * choice + answer : first;
                    count++;
                }
            }
        }
        return what == 0 ? count : first;
    }

    public int wet(int m, int x, boolean upper) {
        if (m < 0 || m > MOST_PARTS || x < 0 || x > 10) {
            return BAD;
        }
        int above = 0;
        int below = 1;
        for (int column = 0; column < COLUMNS; column++) {
            below *= plan.canStrike(now, column) ? 10 : 1;
        }
        for (int gone = 0; gone < 1 << COLUMNS; gone++) {
            if (Integer.bitCount(hadWithout(gone)) >= m) {
                above += weightOf(gone, x);
            }
        }
        return told(above, below, upper);
    }

    public long seed(long v) {
        long was = theSeed;
        theSeed = v;
        return was;
    }

    public int terms(int m) {
        if (m < 1 || m > MOST_TERMS) {
            return BAD;
        }
        int frame = now;
        int sum = 0;
        for (int time = 0; time < m; time++) {
            theSeed = theSeed * 6364136223846793005L + 1442695040888963407L;
            frame = withChance(frame, (int) ((theSeed >>> 33) % 16));
            sum += Frame.countHad(frame);
        }
        return sum;
    }

    // ---- slots

    public int keep(int slot) {
        if (slot < 0 || slot >= SLOTS) {
            return UNKNOWN;
        }
        kept[slot] = true;
        keptFrames[slot] = now;
        keptRains[slot] = rains;
        return allPoles();
    }

    public int again(int slot) {
        if (slot < 0 || slot >= SLOTS) {
            return UNKNOWN;
        }
        if (!kept[slot]) {
            return LATE;
        }
        now = keptFrames[slot];
        rains = keptRains[slot];
        acts.count = 0;
        return allPoles();
    }

    // ---- helpers of the calls

    private static boolean isColumn(int column) {
        return column >= 0 && column < COLUMNS;
    }

    private static boolean isCountOrFirst(int what) {
        return what == 0 || what == 1;
    }

    private int allPoles() {
        return Integer.bitCount(Frame.poles(now));
    }

    /** The least row of just so many acts behind which all wanted cells are had; NONE. */
    private static int leastRow(Plan plan, int frame, int wanted, int count) {
        int missing = wanted & ~Frame.had(frame);
        if (count <= 0) {
            return missing == 0 ? 0 : NONE;
        }
        // A part is had by a put in its own cell alone, so this many puts are still to come at least.
        if (Integer.bitCount(downToGround(missing) & ~Frame.poles(frame)) > count) {
            return NONE;
        }
        for (int figure = 1; figure <= 2 * COLUMNS; figure++) {
            boolean isPut = figure <= COLUMNS;
            int column = (figure - 1) % COLUMNS;
            if (isPut ? plan.canPut(frame, column) : plan.canStrike(frame, column)) {
                int next = isPut ? plan.withPut(frame, column) : plan.withStruck(frame, column);
                int rest = leastRow(plan, next, wanted, count - 1);
                if (rest != NONE) {
                    return figure * (int) powerOfTen(count - 1) + rest;
                }
            }
        }
        return NONE;
    }

    private static int downToGround(int cells) {
        return cells | cells >> 4 | cells >> 8 | cells >> 12;
    }

    private static int doingFromEnd(long row, int place) {
        long rest = row;
        for (int passed = 0; passed < place; passed++) {
            rest /= 1000L;
        }
        return (int) (rest % 1000L);
    }

    private boolean canBe(int frame, int doing) {
        int middle = doing / 10 % 10;
        int last = doing % 10;
        switch (doing / 100) {
            case 1:
                return middle == 0 && isColumn(last) && plan.canPut(frame, last);
            case 2:
                return middle == 0 && isColumn(last) && plan.canStrike(frame, last);
            case 3:
                return middle == 0 && last == 0;
            case 4:
                return middle == 0 && plan.isPart(last)
                        && (Frame.had(frame) >> plan.cellOf(last) & 1) == 1;
            case 5:
                return isColumn(middle) && Frame.height(frame, middle) >= last;
            default:
                return false;
        }
    }

    private int withDoing(int frame, int doing) {
        switch (doing / 100) {
            case 1:
                return plan.withPut(frame, doing % 10);
            case 2:
                return plan.withStruck(frame, doing % 10);
            case 3:
                return plan.withRain(frame);
            default:
                return frame;
        }
    }

    /** In how many orders of all parts just so many come before a told one. */
    private int ordersWith(int before) {
        return factorial(before) * factorial(plan.parts - 1 - before);
    }

    private boolean isRest(int one, int other, int choice, int answer) {
        int both = withChoices(one, choice, other, answer);
        int oneHas = worth(both, one);
        int otherHas = worth(both, other);
        for (int instead = 0; instead < CHOICES; instead++) {
            if (worth(withChoices(one, instead, other, answer), one) > oneHas
                    || worth(withChoices(one, choice, other, instead), other) > otherHas) {
                return false;
            }
        }
        return true;
    }

    private int withChoices(int one, int choice, int other, int answer) {
        return withChoice(withChoice(now, one, choice), other, answer);
    }

    private int withChoice(int frame, int column, int choice) {
        if (choice == 1 && plan.canPut(frame, column)) {
            return plan.withPut(frame, column);
        }
        if (choice == 2 && plan.canStrike(frame, column)) {
            return plan.withStruck(frame, column);
        }
        return frame;
    }

    private static int worth(int frame, int column) {
        int had = Integer.bitCount(Frame.had(frame) & COLUMN_0 << column);
        return 2 * had - Frame.height(frame, column);
    }

    /** What is had when the columns told as bits have lost their top poles all at once. */
    private int hadWithout(int gone) {
        int poles = Frame.poles(now);
        for (int column = 0; column < COLUMNS; column++) {
            if ((gone >> column & 1) == 1 && plan.canStrike(now, column)) {
                poles &= ~Frame.cellBit(column, Frame.height(now, column) - 1);
            }
        }
        return plan.standing(Frame.had(now), poles);
    }

    /** How likely it is, in tenths for each column with poles, that just these top poles go. */
    private int weightOf(int gone, int x) {
        int weight = 1;
        for (int column = 0; column < COLUMNS; column++) {
            boolean goes = (gone >> column & 1) == 1;
            if (plan.canStrike(now, column)) {
                weight *= goes ? x : 10 - x;
            } else if (goes) {
                return 0;
            }
        }
        return weight;
    }

    private int withChance(int frame, int chance) {
        if (chance == 15) {
            return plan.withRain(frame);
        }
        return withChoice(frame, chance % COLUMNS, chance <= 8 ? 1 : 2);
    }

    private static int factorial(int n) {
        int product = 1;
        for (int factor = 2; factor <= n; factor++) {
            product *= factor;
        }
        return product;
    }

    private static long powerOfTen(int exponent) {
        long power = 1L;
        for (int times = 0; times < exponent; times++) {
            power *= 10L;
        }
        return power;
    }

    /** One side of a fraction in least terms; above is 0 or more, below 1 or more. */
    private static int told(int above, int below, boolean upper) {
        int common = commonDivisor(above, below);
        if (common < 1) {
            return upper ? above : below;
        }
        return upper ? above / common : below / common;
    }

    private static int commonDivisor(int one, int other) {
        int large = one;
        int small = other;
        // Euclid's way needs less than 50 rounds for any two ints.
        for (int round = 0; round < 64 && small != 0; round++) {
            int rest = large % small;
            large = small;
            small = rest;
        }
        return large;
    }

    /**
     * A frame is one int, so that what would be is tried without making objects: the cells with
     * poles are its lower 16 bits, the cells of parts that are had its upper 16.
     */
    private static final class Frame {
        static int of(int poles, int had) {
            return poles & ALL_CELLS | had << CELLS;
        }

        static int poles(int frame) {
            return frame & ALL_CELLS;
        }

        static int had(int frame) {
            return frame >>> CELLS;
        }

        static int countHad(int frame) {
            return Integer.bitCount(had(frame));
        }

        static int height(int frame, int column) {
            return Integer.bitCount(poles(frame) & COLUMN_0 << column);
        }

        static int cellBit(int column, int lift) {
            return 1 << COLUMNS * lift + column;
        }
    }

    /** The bytes that are written, and whether they tell an idea. */
    private static final class Text {
        static final int MOST_BYTES = 32;
        static final int HEAD = 2;
        static final int PART_BYTES = 3;

        final int[] letters = new int[MOST_BYTES];
        int length = 0;

        boolean append(int letter) {
            if (length < 0 || length >= letters.length) {
                return false;
            }
            letters[length] = letter;
            length++;
            return true;
        }

        int letterAt(int place) {
            return place >= 0 && place < length && place < letters.length ? letters[place] : 0;
        }

        int firstFault() {
            int told = 0;
            for (int place = 0; place < length; place++) {
                int letter = letterAt(place);
                if (!fits(place, letter, told)) {
                    return place;
                }
                if (place >= HEAD && (place - HEAD) % PART_BYTES == 1) {
                    told |= 1 << letter - 'a';
                }
            }
            return length >= HEAD && (length - HEAD) % PART_BYTES == 0 ? NONE : length;
        }

        static boolean fits(int place, int letter, int told) {
            if (place == 0) {
                return letter == 'I';
            }
            if (place == 1) {
                return letter >= '0' && letter <= '9';
            }
            if (place >= HEAD + PART_BYTES * MOST_PARTS) {
                return false;
            }
            switch ((place - HEAD) % PART_BYTES) {
                case 0:
                    return letter == 'P';
                case 1:
                    return letter >= 'a' && letter <= 'p' && (told >> letter - 'a' & 1) == 0;
                default:
                    return letter >= '0' && letter <= '3';
            }
        }

        int parts() {
            return length < HEAD ? 0 : (length - HEAD) / PART_BYTES;
        }

        int cellOfPart(int part) {
            return letterAt(HEAD + PART_BYTES * part + 1) - 'a';
        }

        int kindOfPart(int part) {
            return letterAt(HEAD + PART_BYTES * part + 2) - '0';
        }
    }

    /** The idea: its poles and parts, and what an act makes of a frame. */
    private static final class Plan {
        final int[] cells = {NONE, NONE, NONE, NONE, NONE, NONE, NONE};
        final int[] kinds = new int[MOST_PARTS];
        int poles = 0;
        int parts = 0;
        int plainCells = 0;
        int keyCells = 0;
        int stairCells = 0;
        int airCells = 0;

        /** The text has no fault. */
        void learn(Text text) {
            poles = text.letterAt(1) - '0';
            parts = Math.min(text.parts(), MOST_PARTS);
            for (int part = 0; part < MOST_PARTS; part++) {
                boolean isTold = part < parts;
                cells[part] = isTold ? text.cellOfPart(part) : NONE;
                kinds[part] = isTold ? text.kindOfPart(part) : PLAIN;
            }
            plainCells = cellsOfKind(PLAIN);
            keyCells = cellsOfKind(KEY);
            stairCells = cellsOfKind(STAIR);
            airCells = cellsOfKind(AIR);
        }

        int cellsOfKind(int kind) {
            int found = 0;
            for (int part = 0; part < MOST_PARTS; part++) {
                if (kinds[part] == kind && cells[part] != NONE) {
                    found |= 1 << cells[part];
                }
            }
            return found;
        }

        boolean isPart(int part) {
            return part >= 0 && part < parts && part < MOST_PARTS;
        }

        int cellOf(int part) {
            return isPart(part) ? cells[part] : NONE;
        }

        int kindOf(int part) {
            return isPart(part) ? kinds[part] : NONE;
        }

        int partIn(int cell) {
            for (int part = 0; part < MOST_PARTS; part++) {
                if (cells[part] == cell) {
                    return part;
                }
            }
            return NONE;
        }

        int partsAt(int cellBits) {
            int bits = 0;
            for (int part = 0; part < MOST_PARTS; part++) {
                if (cells[part] != NONE && (cellBits >> cells[part] & 1) == 1) {
                    bits |= 1 << part;
                }
            }
            return bits;
        }

        int cellsOf(int partBits) {
            int bits = 0;
            for (int part = 0; part < MOST_PARTS; part++) {
                if (cells[part] != NONE && (partBits >> part & 1) == 1) {
                    bits |= 1 << cells[part];
                }
            }
            return bits;
        }

        /** Every pole of the idea is in the store or in a column, so the store need not be kept. */
        int store(int frame) {
            return poles - Integer.bitCount(Frame.poles(frame));
        }

        boolean canPut(int frame, int column) {
            return store(frame) > 0 && Frame.height(frame, column) < MOST_POLES;
        }

        boolean canStrike(int frame, int column) {
            return Frame.height(frame, column) > 0;
        }

        /** One can be put there. Nothing that stood falls by it. */
        int withPut(int frame, int column) {
            int cell = Frame.cellBit(column, Frame.height(frame, column));
            int told = plainCells | keyCells | stairCells | airCells;
            return Frame.of(Frame.poles(frame) | cell, Frame.had(frame) | cell & told);
        }

        /** One can be struck there. */
        int withStruck(int frame, int column) {
            int cell = Frame.cellBit(column, Frame.height(frame, column) - 1);
            int left = Frame.poles(frame) & ~cell;
            return Frame.of(left, standing(Frame.had(frame), left));
        }

        int withRain(int frame) {
            int standingPoles = Frame.poles(frame);
            int dry = Frame.had(frame) & ~(airCells & ~standingPoles);
            return Frame.of(standingPoles, standing(dry, standingPoles));
        }

        int countStanding(int partBits) {
            return Integer.bitCount(standing(cellsOf(partBits), 0));
        }

        /** Begins with what stands of itself, so that nothing stands by what it carries. */
        int standing(int had, int poleCells) {
            int stands = had & (poleCells | GROUND | airCells);
            for (int round = 0; round < MOST_PARTS; round++) {
                int more = stands | had & carriedBy(stands);
                if (more == stands) {
                    return stands;
                }
                stands = more;
            }
            return stands;
        }

        int carriedBy(int stands) {
            int leftStands = stands << 1 & ~COLUMN_0;
            int rightStands = stands >> 1 & ~COLUMN_3;
            int aboveAny = (stands | leftStands | rightStands) << COLUMNS;
            return plainCells & stands << COLUMNS
                    | keyCells & leftStands & rightStands
                    | stairCells & aboveAny;
        }
    }

    /** The row of acts, as what was before each. */
    private static final class Acts {
        static final int MOST = 14;

        final int[] frames = new int[MOST];
        final int[] rainsBefore = new int[MOST];
        int count = 0;

        void remember(int frame, int rained) {
            if (count >= MOST) {
                forgetFirst();
            }
            if (count >= 0 && count < MOST) {
                frames[count] = frame;
                rainsBefore[count] = rained;
                count++;
            }
        }

        void forgetFirst() {
            for (int place = 1; place < MOST; place++) {
                frames[place - 1] = frames[place];
                rainsBefore[place - 1] = rainsBefore[place];
            }
            count = MOST - 1;
        }

        int lastFrame() {
            return count > 0 && count <= MOST ? frames[count - 1] : 0;
        }

        int lastRains() {
            return count > 0 && count <= MOST ? rainsBefore[count - 1] : 0;
        }
    }

    /** What was tried of an unknown part. */
    private static final class Tries {
        static final int MOST = 6;
        static final int BELOW = 1;
        static final int LEFT_AND_RIGHT = 2 | 4;
        static final int BELOW_OR_ASKEW = 1 | 8 | 16;

        final int[] abouts = new int[MOST];
        final boolean[] stoods = new boolean[MOST];
        int count = 0;

        boolean add(int about, boolean stood) {
            if (count < 0 || count >= MOST) {
                return false;
            }
            abouts[count] = about;
            stoods[count] = stood;
            count++;
            return true;
        }

        boolean agreeWith(int kind, int lift) {
            for (int place = 0; place < count && place < MOST; place++) {
                if (wouldStand(kind, lift, abouts[place]) != stoods[place]) {
                    return false;
                }
            }
            return true;
        }

        static boolean wouldStand(int kind, int lift, int about) {
            if (lift == 0) {
                return true;
            }
            switch (kind) {
                case PLAIN:
                    return (about & BELOW) != 0;
                case KEY:
                    return (about & LEFT_AND_RIGHT) == LEFT_AND_RIGHT;
                case STAIR:
                    return (about & BELOW_OR_ASKEW) != 0;
                default:
                    return true;
            }
        }
    }
}
