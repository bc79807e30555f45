import java.util.Arrays;

/** Pens with broad nibs on a sheet of 5 by 5 dots; DOC.md tells the promises, by the same words. */
public final class BroadNib {
    public static final int UNKNOWN = -1, OUTSIDE = -2, STATE = -3, FULL = -4, NONE = -9;

    private static final int SIDE = 5, DOTS = 25, DIRECTIONS = 8;
    private static final int MOST_PENS = 4, MOST_STAINS = 4, MOST_LETTERS = 48, MOST_WORD = 8;
    private static final int MOST_ACTS = 14, MOST_SEEN = 6, MOST_DOINGS = 4, MOST_RING = 4, SLOTS = 2;
    private static final int MOST_ON_DOT = 99, BLACK_FROM = 3, MOST_THICK_SEEN = 6, MOST_YEARS = 30;
    private static final int PLAIN = 0, POINTED = 1, BRUSH = 2, MOST_RULED = 2;
    private static final int NIB_MIDDLE = 3, NIB_MOST = 6, INK_UNIT = 5;

    private static final int[] RIGHT = {1, 1, 0, -1, -1, -1, 0, 1};
    private static final int[] UP = {0, 1, 1, 1, 0, -1, -1, -1};
    /** The greatest figure at each place of a part, behind its letter. */
    private static final int[] PEN_FIGURES = {4, 4, 3, 6, 6, 9};
    private static final int[] STAIN_FIGURES = {4, 4, 9};
    private static final int PEN_NIB_A = 3, PEN_NIB_B = 4;
    private static final int[] ORDERS = {1, 1, 2, 6, 24};
    private static final long[] TENS = {1L, 10L, 100L, 1000L, 10000L, 100000L, 1000000L, 10000000L,
        100000000L, 1000000000L, 10000000000L, 100000000000L, 1000000000000L};

    private static final long SEED_TIMES = 6364136223846793005L, SEED_MORE = 1442695040888963407L;
    private static final int SEED_SHIFT = 33, YEAR_KINDS = 48;
    private static final int YEAR_TURNS = 32, YEAR_PUTS = 36, YEAR_DIPS = 40, YEAR_BLOTS = 44, YEAR_BLOT_GAP = 6;

    private final Text text = new Text();
    private final Word word = new Word();
    private final Sheet sheet = new Sheet();
    /** Every question that asks "what if" is tried out here, so that the sheet itself never changes by it. */
    private final Sheet trial = new Sheet();
    private final Acts acts = new Acts();
    private final Seen seen = new Seen();
    private final Ways ways = new Ways();
    private final Slot[] slots = new Slot[SLOTS];
    private final int[] gainOfOne = new int[4];
    private final int[] gainOfOther = new int[4];
    private long seed;

    public BroadNib() {
        for (int i = 0; i < SLOTS; i++) {
            slots[i] = new Slot();
        }
    }

    // ---- the desk

    public int write(int letter) {
        if (!isWithin(letter, 255)) {
            return OUTSIDE;
        }
        return text.add(letter) ? text.length : FULL;
    }

    public int wipe() {
        int length = text.length;
        text.length = 0;
        return length;
    }

    public int fault() {
        return text.findFault();
    }

    public int desk() {
        if (text.findFault() != NONE) {
            return STATE;
        }
        text.layOut(sheet);
        acts.forgetAll();
        for (int i = 0; i < SLOTS; i++) {
            slots[i].used = false;
        }
        return sheet.penCount;
    }

    public int word(int n, long row) {
        if (!isWithin(n, MOST_WORD) || !hasFigures(row, n) || !Word.isOfDirections(n, row)) {
            return OUTSIDE;
        }
        int before = word.length;
        word.tell(n, row);
        return before;
    }

    public int pen(int pen, int what) {
        Pen held = sheet.find(pen);
        if (held == null) {
            return UNKNOWN;
        }
        switch (what) {
            case 0: return held.dot;
            case 1: return held.kind;
            case 2: return held.toldNib();
            case 3: return held.ink;
            case 4: return held.full;
            case 5: return held.down ? 1 : 0;
            case 6: return placeOfStop(pen);
            default: return OUTSIDE;
        }
    }

    public int dot(int dot) {
        return isDot(dot) ? sheet.inkOn(dot) : UNKNOWN;
    }

    public int thick(int pen, int direction) {
        Pen held = sheet.find(pen);
        if (held == null) {
            return UNKNOWN;
        }
        return isDirection(direction) ? held.across(direction) : OUTSIDE;
    }

    // ---- acts

    public int step(int pen, int direction) {
        Pen held = sheet.find(pen);
        if (held == null) {
            return UNKNOWN;
        }
        if (!isDirection(direction)) {
            return OUTSIDE;
        }
        int next = neighbour(held.dot, direction);
        if (next == NONE) {
            return STATE;
        }
        acts.note(sheet, pen, next);
        return sheet.move(held, direction);
    }

    public int put(int pen) {
        Pen held = sheet.find(pen);
        if (held == null) {
            return UNKNOWN;
        }
        acts.note(sheet, pen, NONE);
        held.flip();
        return held.down ? 1 : 0;
    }

    public int dip(int pen) {
        Pen held = sheet.find(pen);
        if (held == null) {
            return UNKNOWN;
        }
        if (held.isFull()) {
            return STATE;
        }
        acts.note(sheet, pen, NONE);
        return held.refill();
    }

    public int turn(int pen) {
        Pen held = sheet.find(pen);
        if (held == null) {
            return UNKNOWN;
        }
        acts.note(sheet, pen, NONE);
        held.quarter();
        return held.toldNib();
    }

    public int blot(int dot) {
        if (!isDot(dot)) {
            return UNKNOWN;
        }
        if (sheet.inkOn(dot) == 0) {
            return STATE;
        }
        acts.note(sheet, NONE, dot);
        return sheet.clean(dot);
    }

    public int undo() {
        if (acts.count == 0) {
            return STATE;
        }
        acts.takeBackLast(sheet);
        return acts.count;
    }

    // ---- what is written, ways

    public int behind(int pen, int n, int what) {
        Pen held = tried(pen);
        if (held == null) {
            return UNKNOWN;
        }
        if (!isWithin(n, MOST_WORD) || !isWithin(what, 2)) {
            return OUTSIDE;
        }
        int inkBefore = held.ink;
        trial.follow(held, word, n);
        switch (what) {
            case 0: return held.dot;
            case 1: return held.ink;
            default: return inkBefore - held.ink;
        }
    }

    public int least(int pen, int dot, int what) {
        Pen held = sheet.find(pen);
        if (held == null || !isDot(dot)) {
            return UNKNOWN;
        }
        if (!isWithin(what, 2)) {
            return OUTSIDE;
        }
        ways.reckonTo(dot, held);
        switch (what) {
            case 0: return ways.inkFrom(held.dot);
            case 1: return ways.stepsFrom(held.dot);
            default: return ways.directionFrom(held.dot);
        }
    }

    public int rings(int pen, int n, int what) {
        Pen held = sheet.find(pen);
        if (held == null) {
            return UNKNOWN;
        }
        if (n < 1 || n > MOST_RING || !isWithin(what, 1)) {
            return OUTSIDE;
        }
        ways.walk(held, n);
        return what == 0 ? ways.rowsTo(held.dot) : ways.lowestTo(held.dot);
    }

    public int judge(int n, long row) {
        if (n < 1 || n > MOST_DOINGS || !hasFigures(row, 3 * n)) {
            return OUTSIDE;
        }
        trial.copy(sheet);
        for (int i = 0; i < n; i++) {
            int last = 3 * (n - 1 - i);
            if (!isDone(figure(row, last + 2), figure(row, last + 1), figure(row, last))) {
                return i;
            }
        }
        return NONE;
    }

    // ---- seen

    public int see(int direction, int t) {
        if (!isDirection(direction) || !isWithin(t, MOST_THICK_SEEN)) {
            return OUTSIDE;
        }
        return seen.add(direction, t) ? seen.count : FULL;
    }

    public int unsee() {
        int before = seen.count;
        seen.count = 0;
        return before;
    }

    public int nibs(int what) {
        switch (what) {
            case 0: return seen.countNibs();
            case 1: return seen.firstNib();
            default: return OUTSIDE;
        }
    }

    // ---- shares, rests, chances

    public int share(int pen, boolean upper) {
        if (sheet.find(pen) == null) {
            return UNKNOWN;
        }
        int sum = 0;
        for (int set = 0; set < 1 << sheet.penCount; set++) {
            if ((set >> pen & 1) == 0) {
                int ahead = Integer.bitCount(set);
                // Orders that have just this set ahead of the pen: each order of it by each of those behind.
                int many = orders(ahead) * orders(sheet.penCount - 1 - ahead);
                sum += many * blackerBehind(set, pen);
            }
        }
        return toldFraction(sum, orders(sheet.penCount), upper);
    }

    public int rests(int one, int other, int what) {
        if (sheet.find(one) == null || sheet.find(other) == null) {
            return UNKNOWN;
        }
        if (one == other || !isWithin(what, 1)) {
            return OUTSIDE;
        }
        for (int pair = 0; pair < 4; pair++) {
            reckonGains(one, other, pair);
        }
        int many = 0;
        int first = NONE;
        for (int pair = 3; pair >= 0; pair--) {
            if (isRest(pair)) {
                many++;
                first = 10 * (pair >> 1) + (pair & 1);
            }
        }
        return what == 0 ? many : first;
    }

    public int skipped(int pen, int v, int x, boolean upper) {
        Pen held = sheet.find(pen);
        if (held == null) {
            return UNKNOWN;
        }
        if (!isWithin(v, 99) || !isWithin(x, 10)) {
            return OUTSIDE;
        }
        return toldFraction(casesOfEnough(held, word, 0, held.dot, 0, v, x), tens(word.length), upper);
    }

    public long seed(long v) {
        long before = seed;
        seed = v;
        return before;
    }

    public int years(int m) {
        if (m < 1 || m > MOST_YEARS) {
            return OUTSIDE;
        }
        trial.copy(sheet);
        int sum = 0;
        for (int i = 0; i < m; i++) {
            seed = seed * SEED_TIMES + SEED_MORE;
            passYear((int) ((seed >>> SEED_SHIFT) % YEAR_KINDS));
            sum += trial.inkOnAll();
        }
        return sum;
    }

    // ---- slots

    public int keep(int slot) {
        if (!isWithin(slot, SLOTS - 1)) {
            return UNKNOWN;
        }
        slots[slot].kept.copy(sheet);
        slots[slot].used = true;
        return sheet.time;
    }

    public int again(int slot) {
        if (!isWithin(slot, SLOTS - 1)) {
            return UNKNOWN;
        }
        if (!slots[slot].used) {
            return STATE;
        }
        sheet.copy(slots[slot].kept);
        acts.forgetAll();
        return sheet.time;
    }

    public int count(int what) {
        switch (what) {
            case 0: return text.length;
            case 1: return sheet.penCount;
            case 2: return sheet.time;
            case 3: return sheet.inkOnAll();
            case 4: return sheet.blackBits();
            case 5: return sheet.downBits();
            case 6: return sheet.fullBits();
            case 7: return word.length;
            case 8: return acts.count;
            case 9: return seen.count;
            default: return OUTSIDE;
        }
    }

    // ---- helpers of the calls

    private Pen tried(int pen) {
        trial.copy(sheet);
        return trial.find(pen);
    }

    private int placeOfStop(int pen) {
        Pen held = tried(pen);
        if (held == null) {
            return NONE;
        }
        int done = trial.follow(held, word, word.length);
        return done < word.length ? done : NONE;
    }

    /** One doing of a judged row, tried out; three figures that the document does not list can not be. */
    private boolean isDone(int kind, int middle, int last) {
        if (kind == 5) {
            return middle < SIDE && last < SIDE && trial.isBlack(SIDE * last + middle);
        }
        boolean toldInMiddle = kind == 1 || kind == 6 || kind == 7;
        Pen held = trial.find(toldInMiddle ? middle : last);
        if (held == null || !toldInMiddle && middle != 0) {
            return false;
        }
        switch (kind) {
            case 1: return trial.move(held, last) != NONE;
            case 2:
                held.flip();
                return true;
            case 3: return held.refill() > 0;
            case 4:
                held.quarter();
                return true;
            case 6: return held.ink >= last;
            case 7: return last == 0 && trial.follow(held, word, word.length) == word.length;
            default: return false;
        }
    }

    /** How many more dots a pen makes black behind a set of others: no pen's ink is another's, so any order will do. */
    private int blackerBehind(int set, int pen) {
        trial.copy(sheet);
        for (int i = 0; i < sheet.penCount; i++) {
            if ((set >> i & 1) == 1) {
                trial.follow(trial.find(i), word, word.length);
            }
        }
        int before = Integer.bitCount(trial.blackBits());
        trial.follow(trial.find(pen), word, word.length);
        return Integer.bitCount(trial.blackBits()) - before;
    }

    /** A pair is 2 times the choice of the one and that of the other. */
    private void reckonGains(int one, int other, int pair) {
        trial.copy(sheet);
        if ((pair & 2) != 0) {
            trial.follow(trial.find(one), word, word.length);
        }
        if ((pair & 1) != 0) {
            trial.follow(trial.find(other), word, word.length);
        }
        int black = Integer.bitCount(trial.blackBits());
        gainOfOne[pair & 3] = trial.inkOf(one) + 2 * black;
        gainOfOther[pair & 3] = trial.inkOf(other) + 2 * black;
    }

    private boolean isRest(int pair) {
        return gainOfOne[pair & 3] >= gainOfOne[(pair ^ 2) & 3]
            && gainOfOther[pair & 3] >= gainOfOther[(pair ^ 1) & 3];
    }

    /** Of ten to the power of the steps from place on, the cases in which enough ink is laid in the end. */
    private static long casesOfEnough(Pen held, Word word, int place, int dot, int laid, int enough, int tenths) {
        if (laid >= enough) {
            return tens(word.length - place);
        }
        if (place >= word.length) {
            return 0;
        }
        long cases = 0;
        if (tenths > 0) {
            cases += tenths * casesOfEnough(held, word, place + 1, dot, laid, enough, tenths);
        }
        int direction = word.at(place);
        int next = neighbour(dot, direction);
        if (tenths < 10 && next != NONE) {
            int more = held.lays(direction, held.ink - laid);
            cases += (10 - tenths) * casesOfEnough(held, word, place + 1, next, laid + more, enough, tenths);
        }
        return cases;
    }

    private void passYear(int kind) {
        if (kind >= YEAR_BLOTS) {
            trial.clean(YEAR_BLOT_GAP * (kind - YEAR_BLOTS));
            return;
        }
        Pen held = trial.find(kind < YEAR_TURNS ? kind / DIRECTIONS : (kind - YEAR_TURNS) % MOST_PENS);
        if (held == null) {
            return;
        }
        if (kind < YEAR_TURNS) {
            trial.move(held, kind % DIRECTIONS);
        } else if (kind < YEAR_PUTS) {
            held.quarter();
        } else if (kind < YEAR_DIPS) {
            held.flip();
        } else {
            held.refill();
        }
    }

    // ---- numbers

    private static boolean isWithin(int value, int most) {
        return value >= 0 && value <= most;
    }

    private static boolean isDot(int dot) {
        return dot >= 0 && dot < DOTS;
    }

    private static boolean isDirection(int direction) {
        return direction >= 0 && direction < DIRECTIONS;
    }

    private static long tens(int power) {
        return isWithin(power, TENS.length - 1) ? TENS[power] : 1;
    }

    private static int orders(int pens) {
        return isWithin(pens, ORDERS.length - 1) ? ORDERS[pens] : 1;
    }

    private static boolean hasFigures(long row, int most) {
        return row >= 0 && row < tens(most);
    }

    /** The figure that so many others follow. */
    private static int figure(long row, int followers) {
        return (int) (row / tens(followers) % 10);
    }

    private static int neighbour(int dot, int direction) {
        if (!isDot(dot) || !isDirection(direction)) {
            return NONE;
        }
        int x = dot % SIDE + RIGHT[direction];
        int y = dot / SIDE + UP[direction];
        return isWithin(x, SIDE - 1) && isWithin(y, SIDE - 1) ? SIDE * y + x : NONE;
    }

    private static int toldFraction(long above, long below, boolean upper) {
        long divisor = commonDivisor(above, below);
        if (divisor < 1) {
            return 0;
        }
        return (int) ((upper ? above : below) / divisor);
    }

    private static long commonDivisor(long one, long other) {
        long greater = one;
        long less = other;
        // Numbers of 63 bits need fewer than 100 rounds.
        for (int i = 0; i < 100 && less != 0; i++) {
            long rest = greater % less;
            greater = less;
            less = rest;
        }
        return greater;
    }

    // ---- classes inside

    private static final class Text {
        final int[] letters = new int[MOST_LETTERS];
        int length;

        boolean add(int letter) {
            if (length < 0 || length >= MOST_LETTERS) {
                return false;
            }
            letters[length] = letter;
            length++;
            return true;
        }

        int letterAt(int place) {
            return place >= 0 && place < length && place < MOST_LETTERS ? letters[place] : NONE;
        }

        int figureAt(int place) {
            return letterAt(place) - '0';
        }

        int findFault() {
            if (letterAt(0) != 'N') {
                return 0;
            }
            int pens = 0;
            int stains = 0;
            int place = 1;
            while (place < length) {
                int letter = letterAt(place);
                int[] most = letter == 'P' ? PEN_FIGURES : STAIN_FIGURES;
                if (letter == 'P' && pens < MOST_PENS) {
                    pens++;
                } else if (letter == 'S' && stains < MOST_STAINS) {
                    stains++;
                } else {
                    return place;
                }
                int fault = findFaultIn(place, most);
                if (fault != NONE) {
                    return fault;
                }
                place += 1 + most.length;
            }
            return NONE;
        }

        private int findFaultIn(int part, int[] most) {
            for (int i = 0; i < most.length; i++) {
                int place = part + 1 + i;
                if (place >= length) {
                    return length;
                }
                if (!isWithin(figureAt(place), most[i]) || isNoNib(part, i)) {
                    return place;
                }
            }
            return NONE;
        }

        /** A nib of no breadth is only known by its second figure. */
        private boolean isNoNib(int part, int i) {
            return letterAt(part) == 'P' && i == PEN_NIB_B
                && figureAt(part + 1 + PEN_NIB_A) == NIB_MIDDLE && figureAt(part + 1 + PEN_NIB_B) == NIB_MIDDLE;
        }

        /** To be called for a text without a fault. */
        void layOut(Sheet sheet) {
            sheet.clear();
            int place = 1;
            while (place < length) {
                if (letterAt(place) == 'P') {
                    layPen(sheet, place);
                    place += 1 + PEN_FIGURES.length;
                } else {
                    sheet.setInk(SIDE * figureAt(place + 2) + figureAt(place + 1), figureAt(place + 3));
                    place += 1 + STAIN_FIGURES.length;
                }
            }
        }

        private void layPen(Sheet sheet, int place) {
            Pen pen = sheet.addPen();
            if (pen == null) {
                return;
            }
            pen.dot = SIDE * figureAt(place + 2) + figureAt(place + 1);
            pen.kind = figureAt(place + 3);
            pen.a = figureAt(place + 4) - NIB_MIDDLE;
            pen.b = figureAt(place + 5) - NIB_MIDDLE;
            pen.full = INK_UNIT * figureAt(place + 6);
            pen.ink = pen.full;
            pen.down = true;
        }
    }

    private static final class Word {
        final int[] directions = new int[MOST_WORD];
        int length;

        static boolean isOfDirections(int n, long row) {
            for (int i = 0; i < n; i++) {
                if (!isDirection(figure(row, i))) {
                    return false;
                }
            }
            return true;
        }

        void tell(int n, long row) {
            length = Math.min(n, MOST_WORD);
            for (int i = 0; i < length; i++) {
                directions[i] = figure(row, length - 1 - i);
            }
        }

        int at(int place) {
            return isWithin(place, MOST_WORD - 1) ? directions[place] : NONE;
        }
    }

    private static final class Pen {
        int dot;
        int kind;
        int a;
        int b;
        int ink;
        int full;
        boolean down;

        void copy(Pen other) {
            dot = other.dot;
            kind = other.kind;
            a = other.a;
            b = other.b;
            ink = other.ink;
            full = other.full;
            down = other.down;
        }

        boolean isFull() {
            return ink == full;
        }

        void flip() {
            down = !down;
        }

        /** The ink that it took. */
        int refill() {
            int taken = full - ink;
            ink = full;
            return taken;
        }

        void quarter() {
            int old = a;
            a = -b;
            b = old;
        }

        int toldNib() {
            return 10 * (a + NIB_MIDDLE) + b + NIB_MIDDLE;
        }

        int across(int direction) {
            if (!isDirection(direction)) {
                return 0;
            }
            int plain = Math.abs(RIGHT[direction] * b - UP[direction] * a);
            switch (kind) {
                case PLAIN: return plain;
                case POINTED: return UP[direction] < 0 ? 1 + Math.abs(a) + Math.abs(b) : 1;
                case BRUSH: return 1 + plain;
                default: return Math.min(MOST_RULED, 1 + plain);
            }
        }

        int lays(int direction, int inkLeft) {
            return down ? Math.min(across(direction), inkLeft) : 0;
        }
    }

    /** What slots keep: pens, ink on dots, the time. */
    private static final class Sheet {
        final Pen[] pens = new Pen[MOST_PENS];
        final int[] ink = new int[DOTS];
        int penCount;
        int time;

        Sheet() {
            for (int i = 0; i < MOST_PENS; i++) {
                pens[i] = new Pen();
            }
        }

        void clear() {
            penCount = 0;
            time = 0;
            Arrays.fill(ink, 0);
        }

        void copy(Sheet other) {
            penCount = other.penCount;
            time = other.time;
            System.arraycopy(other.ink, 0, ink, 0, DOTS);
            for (int i = 0; i < penCount && i < MOST_PENS; i++) {
                pens[i].copy(other.pens[i]);
            }
        }

        Pen addPen() {
            if (penCount < 0 || penCount >= MOST_PENS) {
                return null;
            }
            penCount++;
            return pens[penCount - 1];
        }

        Pen find(int pen) {
            return pen >= 0 && pen < penCount && pen < MOST_PENS ? pens[pen] : null;
        }

        int inkOf(int pen) {
            Pen held = find(pen);
            return held == null ? 0 : held.ink;
        }

        int inkOn(int dot) {
            return isDot(dot) ? ink[dot] : 0;
        }

        void setInk(int dot, int amount) {
            if (isDot(dot)) {
                ink[dot] = amount;
            }
        }

        /** How much ink was there. */
        int clean(int dot) {
            int before = inkOn(dot);
            setInk(dot, 0);
            return before;
        }

        /** The ink that is laid; NONE, with nothing changed, where there is no dot that way. */
        int move(Pen pen, int direction) {
            int next = neighbour(pen.dot, direction);
            if (next == NONE) {
                return NONE;
            }
            int laid = pen.lays(direction, pen.ink);
            pen.dot = next;
            pen.ink -= laid;
            setInk(next, Math.min(MOST_ON_DOT, inkOn(next) + laid));
            time++;
            return laid;
        }

        /** How many steps of a word were done, of n at most, till one could not be; none by no pen. */
        int follow(Pen pen, Word word, int n) {
            int most = Math.min(n, word.length);
            for (int i = 0; i < most; i++) {
                if (pen == null || move(pen, word.at(i)) == NONE) {
                    return i;
                }
            }
            return most;
        }

        boolean isBlack(int dot) {
            return inkOn(dot) >= BLACK_FROM;
        }

        int inkOnAll() {
            int sum = 0;
            for (int i = 0; i < DOTS; i++) {
                sum += ink[i];
            }
            return sum;
        }

        int blackBits() {
            int bits = 0;
            for (int i = 0; i < DOTS; i++) {
                if (isBlack(i)) {
                    bits |= 1 << i;
                }
            }
            return bits;
        }

        int downBits() {
            int bits = 0;
            for (int i = 0; i < penCount && i < MOST_PENS; i++) {
                if (pens[i].down) {
                    bits |= 1 << i;
                }
            }
            return bits;
        }

        int fullBits() {
            int bits = 0;
            for (int i = 0; i < penCount && i < MOST_PENS; i++) {
                if (pens[i].isFull()) {
                    bits |= 1 << i;
                }
            }
            return bits;
        }
    }

    private static final class Slot {
        final Sheet kept = new Sheet();
        boolean used;
    }

    /** What one act may have changed, as it was before; so every kind of act is undone alike. */
    private static final class Act {
        final Pen penBefore = new Pen();
        int pen;
        int dot;
        int inkBefore;
        int timeBefore;

        void note(Sheet sheet, int changedPen, int changedDot) {
            pen = changedPen;
            dot = changedDot;
            inkBefore = sheet.inkOn(dot);
            timeBefore = sheet.time;
            Pen held = sheet.find(pen);
            if (held != null) {
                penBefore.copy(held);
            }
        }

        void takeBack(Sheet sheet) {
            sheet.setInk(dot, inkBefore);
            sheet.time = timeBefore;
            Pen held = sheet.find(pen);
            if (held != null) {
                held.copy(penBefore);
            }
        }
    }

    /** A row that goes round in its array, so that forgetting the first act moves nothing. */
    private static final class Acts {
        final Act[] row = new Act[MOST_ACTS];
        int first;
        int count;

        Acts() {
            for (int i = 0; i < MOST_ACTS; i++) {
                row[i] = new Act();
            }
        }

        private Act at(int place) {
            return row[Math.floorMod(first + place, MOST_ACTS)];
        }

        void note(Sheet sheet, int pen, int dot) {
            if (count < MOST_ACTS) {
                count++;
            } else {
                first = (first + 1) % MOST_ACTS;
            }
            at(count - 1).note(sheet, pen, dot);
        }

        void takeBackLast(Sheet sheet) {
            count--;
            at(count).takeBack(sheet);
        }

        void forgetAll() {
            count = 0;
        }
    }

    private static final class Seen {
        final int[] directions = new int[MOST_SEEN];
        final int[] thicks = new int[MOST_SEEN];
        /** The nibs are tried out on it, one by one; a new pen is a plain one. */
        final Pen unknown = new Pen();
        int count;

        boolean add(int direction, int thick) {
            if (count < 0 || count >= MOST_SEEN) {
                return false;
            }
            directions[count] = direction;
            thicks[count] = thick;
            count++;
            return true;
        }

        int countNibs() {
            int many = 0;
            for (int a = 0; a <= NIB_MOST; a++) {
                for (int b = 0; b <= NIB_MOST; b++) {
                    if (fits(a - NIB_MIDDLE, b - NIB_MIDDLE)) {
                        many++;
                    }
                }
            }
            return many;
        }

        int firstNib() {
            for (int a = 0; a <= NIB_MOST; a++) {
                for (int b = 0; b <= NIB_MOST; b++) {
                    if (fits(a - NIB_MIDDLE, b - NIB_MIDDLE)) {
                        return 10 * a + b;
                    }
                }
            }
            return NONE;
        }

        private boolean fits(int a, int b) {
            if (a == 0 && b == 0) {
                return false;
            }
            unknown.a = a;
            unknown.b = b;
            for (int i = 0; i < count && i < MOST_SEEN; i++) {
                if (unknown.across(directions[i]) != thicks[i]) {
                    return false;
                }
            }
            return true;
        }
    }

    private static final class Ways {
        /** One number weighs ink and, below it, steps: a way of least cost has 24 steps at most. */
        static final int INK_WEIGHT = 100;
        static final int FAR = 1000000;

        final int[] weights = new int[DIRECTIONS];
        final int[] costs = new int[DOTS];
        final int[] rows = new int[DOTS];
        final int[] rowsThen = new int[DOTS];
        final int[] lowest = new int[DOTS];
        final int[] lowestThen = new int[DOTS];

        void reckonTo(int goal, Pen pen) {
            for (int i = 0; i < DIRECTIONS; i++) {
                weights[i] = INK_WEIGHT * pen.across(i) + 1;
            }
            for (int i = 0; i < DOTS; i++) {
                costs[i] = i == goal ? 0 : FAR;
            }
            boolean changed = true;
            for (int round = 0; round < DOTS && changed; round++) {
                changed = isLowered();
            }
        }

        /** Lowers each dot's cost by its neighbours' once; whether one was lowered. */
        private boolean isLowered() {
            boolean changed = false;
            for (int dot = 0; dot < DOTS; dot++) {
                for (int direction = 0; direction < DIRECTIONS; direction++) {
                    int cost = costBy(dot, direction);
                    if (cost < costs[dot]) {
                        costs[dot] = cost;
                        changed = true;
                    }
                }
            }
            return changed;
        }

        private int costBy(int dot, int direction) {
            int next = neighbour(dot, direction);
            return isDot(next) && isDirection(direction) ? weights[direction] + costs[next] : FAR;
        }

        private int costFrom(int dot) {
            return isDot(dot) ? costs[dot] : 0;
        }

        int inkFrom(int dot) {
            return costFrom(dot) / INK_WEIGHT;
        }

        int stepsFrom(int dot) {
            return costFrom(dot) % INK_WEIGHT;
        }

        int directionFrom(int dot) {
            int cost = costFrom(dot);
            for (int direction = 0; direction < DIRECTIONS; direction++) {
                if (cost > 0 && costBy(dot, direction) == cost) {
                    return direction;
                }
            }
            return NONE;
        }

        /** All rows of n steps from a pen's dot, gathered by the dots at which they end. */
        void walk(Pen pen, int n) {
            for (int i = 0; i < DOTS; i++) {
                rows[i] = i == pen.dot ? 1 : 0;
                lowest[i] = i == pen.dot ? 0 : FAR;
            }
            for (int i = 0; i < n; i++) {
                walkOne(pen);
            }
        }

        private void walkOne(Pen pen) {
            Arrays.fill(rowsThen, 0);
            Arrays.fill(lowestThen, FAR);
            for (int direction = 0; direction < DIRECTIONS; direction++) {
                int thick = pen.across(direction);
                for (int dot = 0; dot < DOTS; dot++) {
                    int next = neighbour(dot, direction);
                    if (isDot(next) && rows[dot] > 0) {
                        rowsThen[next] += rows[dot];
                        lowestThen[next] = Math.min(lowestThen[next], lowest[dot] + thick);
                    }
                }
            }
            System.arraycopy(rowsThen, 0, rows, 0, DOTS);
            System.arraycopy(lowestThen, 0, lowest, 0, DOTS);
        }

        int rowsTo(int dot) {
            return isDot(dot) ? rows[dot] : 0;
        }

        int lowestTo(int dot) {
            return isDot(dot) && rows[dot] > 0 ? lowest[dot] : NONE;
        }
    }
}
