/** Beds of an inn whose blankets are from all centuries: one wakes in the bottom one's. */
public final class CenturyBeds {
    public static final int UNKNOWN = -1, OUTSIDE = -2, STATE = -3, FULL = -4, NONE = -9;

    private static final int CELLS = 6;
    private static final int MODERN = 10;
    private static final int MOST_LETTERS = 44;
    private static final int MOST_BLANKETS = 6;
    private static final int MOST_SLEEPERS = 3;
    private static final int WIDEST = 3;
    private static final int MOST_ACTS = 14;
    private static final int MOST_SEEN = 6;
    private static final int MOST_THINGS = 4;
    private static final int MOST_WEEKS = 30;
    private static final int MOST_ORDERS = 720;
    private static final int SLOTS = 2;
    private static final int SUBSETS = 1 << MOST_BLANKETS;
    private static final int ALL_CELLS = (1 << CELLS) - 1;

    private static final int PLAIN = 0, SHEET = 1, QUILT = 2, MOTHED = 3;

    // Acts bear the figures by which judge() tells them.
    private static final int NIGHT = 0, TAKEN = 1, LAID = 2, TUCKED = 3, TURNED_ON = 4, TURNED_BACK = 5;

    private static final int TENTHS = 10;
    private static final int LOST_BY_SHARING = 5;
    private static final int DRAWS = 18;
    private static final long SEED_FACTOR = 6364136223846793005L;
    private static final long SEED_STEP = 1442695040888963407L;

    private final Text text = new Text();
    private final Parts parts = new Parts();
    private final Cells cells = new Cells(parts);
    private final Acts acts = new Acts(parts, cells);
    private final Plans plans = new Plans(parts, cells, acts);
    private final Chances chances = new Chances(parts, cells);
    private final Seen seen = new Seen(parts, cells);
    private final Row rowOfActs = new Row();
    private final Layout now = new Layout();
    private final Layout trial = new Layout();
    private final Layout[] slots = new Layout[SLOTS];
    private final boolean[] kept = new boolean[SLOTS];
    private long theSeed;

    public CenturyBeds() {
        for (int i = 0; i < SLOTS; i++) {
            slots[i] = new Layout();
        }
    }

    // ---- the bed

    public int write(int letter) {
        if (letter < 0 || letter > 255) {
            return OUTSIDE;
        }
        return text.append(letter) ? text.length : FULL;
    }

    public int wipe() {
        int was = text.length;
        text.length = 0;
        return was;
    }

    public int fault() {
        return text.firstFault();
    }

    public int bed() {
        if (text.firstFault() != NONE) {
            return STATE;
        }
        text.tell(parts, now);
        rowOfActs.forgetAll();
        for (int i = 0; i < SLOTS; i++) {
            kept[i] = false;
        }
        return 10 * parts.blankets + parts.sleepers;
    }

    public int blanket(int blanket, int what) {
        if (!parts.hasBlanket(blanket)) {
            return UNKNOWN;
        }
        switch (what) {
            case 0:
                return parts.first[blanket];
            case 1:
                return parts.last[blanket];
            case 2:
                return parts.century[blanket];
            case 3:
                return parts.kind[blanket];
            case 4:
                return now.levelOf(blanket);
            default:
                return OUTSIDE;
        }
    }

    public int sleeper(int sleeper, int what) {
        if (!parts.hasSleeper(sleeper)) {
            return UNKNOWN;
        }
        switch (what) {
            case 0:
                return now.at[sleeper];
            case 1:
                return parts.wide[sleeper];
            case 2:
                return cells.wakes(now, 0, sleeper);
            case 3:
                return now.woken[sleeper];
            default:
                return OUTSIDE;
        }
    }

    public int cell(int cell, int what) {
        if (cell < 0 || cell >= CELLS) {
            return OUTSIDE;
        }
        switch (what) {
            case 0:
                return cells.timeOf(now, 0, cell);
            case 1:
                return cells.blanketsOn(now, cell);
            case 2:
                return cells.sleeperOn(now, cell);
            default:
                return OUTSIDE;
        }
    }

    // ---- acts

    public int take(int blanket) {
        return moveBlanket(TAKEN, blanket);
    }

    public int lay(int blanket) {
        return moveBlanket(LAID, blanket);
    }

    public int tuck(int blanket) {
        return moveBlanket(TUCKED, blanket);
    }

    public int turn(int sleeper, int way) {
        if (!parts.hasSleeper(sleeper)) {
            return UNKNOWN;
        }
        if (way != 1 && way != 2) {
            return OUTSIDE;
        }
        return act(way == 1 ? TURNED_ON : TURNED_BACK, sleeper) ? now.at[sleeper] : STATE;
    }

    public int night() {
        act(NIGHT, 0);
        return now.night;
    }

    public int undo() {
        return rowOfActs.goBack(now) ? rowOfActs.length : STATE;
    }

    private int moveBlanket(int how, int blanket) {
        if (!parts.hasBlanket(blanket)) {
            return UNKNOWN;
        }
        return act(how, blanket) ? now.laid : STATE;
    }

    // The row must not forget its first act for one that is refused.
    private boolean act(int how, int who) {
        trial.copyFrom(now);
        if (!acts.perform(now, how, who)) {
            return false;
        }
        rowOfActs.remember(trial);
        return true;
    }

    // ---- what to do

    public int toTake(int sleeper, int t) {
        if (!parts.hasSleeper(sleeper)) {
            return UNKNOWN;
        }
        return isTime(t) ? plans.fewestTaken(now, sleeper, t) : OUTSIDE;
    }

    public int toTurn(int sleeper, int t) {
        if (!parts.hasSleeper(sleeper)) {
            return UNKNOWN;
        }
        return isTime(t) ? plans.fewestTurns(now, sleeper, t) : OUTSIDE;
    }

    public int toTuck(int sleeper, int t) {
        if (!parts.hasSleeper(sleeper)) {
            return UNKNOWN;
        }
        // No blanket is MODERN, so only centuries can be tucked under.
        return isTime(t) && t != MODERN ? plans.shortestTucked(now, sleeper, t) : OUTSIDE;
    }

    public int orders(int sleeper, int t, boolean first) {
        if (!parts.hasSleeper(sleeper)) {
            return UNKNOWN;
        }
        if (!isTime(t)) {
            return OUTSIDE;
        }
        trial.copyFrom(now);
        return first ? plans.firstOrder(trial, sleeper, t) : plans.howManyOrders(trial, sleeper, t);
    }

    public int judge(int n, int row) {
        if (n < 1 || n > MOST_THINGS) {
            return OUTSIDE;
        }
        int unit = 1;
        for (int i = 0; i < n; i++) {
            unit *= 100;
        }
        if (row < 0 || row >= unit) {
            return OUTSIDE;
        }
        trial.copyFrom(now);
        return plans.firstImpossible(trial, n, row);
    }

    private static boolean isTime(int t) {
        return t >= 0 && t <= MODERN;
    }

    // ---- seen

    public int see(int sleeper, int t) {
        if (!parts.hasSleeper(sleeper)) {
            return UNKNOWN;
        }
        if (!isTime(t)) {
            return OUTSIDE;
        }
        return seen.note(sleeper, t) ? seen.count : FULL;
    }

    public int unsee() {
        int was = seen.count;
        seen.count = 0;
        return was;
    }

    public int gone() {
        return seen.explainedBy(now);
    }

    public int where(int w, int t) {
        if (w < 1 || w > WIDEST || !isTime(t)) {
            return OUTSIDE;
        }
        cells.reckon(now, 0);
        int bits = 0;
        for (int from = 0; from + w <= CELLS; from++) {
            if (Cells.commonest(cells.time, from, w) == t) {
                bits |= 1 << from;
            }
        }
        return bits;
    }

    // ---- shares, rests, chances

    public int share(int blanket, boolean upper) {
        if (!parts.hasBlanket(blanket)) {
            return UNKNOWN;
        }
        return chances.shareOf(now, blanket, upper);
    }

    public int rests(int one, int other, int t, int u, int what) {
        if (!parts.hasSleeper(one) || !parts.hasSleeper(other)) {
            return UNKNOWN;
        }
        if (one == other || !isTime(t) || !isTime(u) || what < 0 || what > 1) {
            return OUTSIDE;
        }
        cells.reckon(now, 0);
        chances.weighPlaces(one, t, other, u);
        return what == 0 ? chances.howManyRests() : chances.firstRest();
    }

    public int kicked(int sleeper, int t, int x, boolean upper) {
        if (!parts.hasSleeper(sleeper)) {
            return UNKNOWN;
        }
        if (!isTime(t) || x < 0 || x > TENTHS) {
            return OUTSIDE;
        }
        return chances.chanceKicked(now, sleeper, t, x, upper);
    }

    public long seed(long v) {
        long was = theSeed;
        theSeed = v;
        return was;
    }

    public int weeks(int m) {
        if (m < 1 || m > MOST_WEEKS) {
            return OUTSIDE;
        }
        trial.copyFrom(now);
        int together = 0;
        for (int i = 0; i < m; i++) {
            theSeed = theSeed * SEED_FACTOR + SEED_STEP;
            int drawn = (int) ((theSeed >>> 33) % DRAWS);
            acts.perform(trial, TAKEN + drawn / MOST_BLANKETS, drawn % MOST_BLANKETS);
            together += cells.wakingsTogether(trial);
        }
        return together;
    }

    // ---- slots

    public int keep(int slot) {
        if (slot < 0 || slot >= SLOTS) {
            return UNKNOWN;
        }
        slots[slot].copyFrom(now);
        kept[slot] = true;
        return now.night;
    }

    public int again(int slot) {
        if (slot < 0 || slot >= SLOTS) {
            return UNKNOWN;
        }
        if (!kept[slot]) {
            return STATE;
        }
        now.copyFrom(slots[slot]);
        rowOfActs.forgetAll();
        return now.night;
    }

    public int count(int what) {
        switch (what) {
            case 0:
                return text.length;
            case 1:
                return parts.blankets;
            case 2:
                return parts.sleepers;
            case 3:
                return now.night;
            case 4:
                return now.asFigures();
            case 5:
                return cells.modernBits(now);
            case 6:
                return rowOfActs.length;
            case 7:
                return seen.count;
            default:
                return OUTSIDE;
        }
    }

    /** The letters, and what of a bed they tell. */
    private static final class Text {
        private static final int BLANKET_LETTERS = 5, SLEEPER_LETTERS = 3;

        private final int[] letters = new int[MOST_LETTERS];
        int length;

        boolean append(int letter) {
            if (length >= MOST_LETTERS) {
                return false;
            }
            letters[length] = letter;
            length++;
            return true;
        }

        int firstFault() {
            if (length == 0 || letters[0] != 'B') {
                return 0;
            }
            int blankets = 0;
            int sleepers = 0;
            int slept = 0;
            int place = 1;
            while (place < length) {
                boolean blanket = letters[place] == 'Q' && blankets < MOST_BLANKETS;
                boolean sleeper = letters[place] == 'S' && sleepers < MOST_SLEEPERS && slept != ALL_CELLS;
                if (!blanket && !sleeper) {
                    return place;
                }
                int bad = blanket ? blanketFault(place) : sleeperFault(place, slept);
                if (bad != NONE) {
                    return bad;
                }
                if (blanket) {
                    blankets++;
                    place += BLANKET_LETTERS;
                } else {
                    slept |= cellBits(figureAt(place + 1), figureAt(place + 2));
                    sleepers++;
                    place += SLEEPER_LETTERS;
                }
            }
            return NONE;
        }

        private int blanketFault(int place) {
            int bad = figureFault(place + 1, 0, CELLS - 1);
            if (bad == NONE) {
                bad = figureFault(place + 2, figureAt(place + 1), CELLS - 1);
            }
            if (bad == NONE) {
                bad = figureFault(place + 3, 0, 9);
            }
            return bad == NONE ? figureFault(place + 4, PLAIN, MOTHED) : bad;
        }

        private int sleeperFault(int place, int slept) {
            int bad = figureFault(place + 1, 0, CELLS - 1);
            if (bad != NONE) {
                return bad;
            }
            int from = figureAt(place + 1);
            if ((slept & cellBits(from, 1)) != 0) {
                return place + 1;
            }
            bad = figureFault(place + 2, 1, Math.min(WIDEST, CELLS - from));
            if (bad != NONE) {
                return bad;
            }
            return (slept & cellBits(from, figureAt(place + 2))) != 0 ? place + 2 : NONE;
        }

        private int figureFault(int place, int least, int most) {
            if (place >= length) {
                return length;
            }
            int figure = figureAt(place);
            return figure < least || figure > most ? place : NONE;
        }

        private int figureAt(int place) {
            return place >= 0 && place < length ? letters[place] - '0' : NONE;
        }

        private static int cellBits(int from, int wide) {
            return ((1 << wide) - 1) << from;
        }

        /** Only for a text without a fault. */
        void tell(Parts parts, Layout bed) {
            parts.clear();
            bed.clear();
            int place = 1;
            while (place < length) {
                if (letters[place] == 'Q') {
                    bed.layOnTop(parts.blankets);
                    parts.addBlanket(figureAt(place + 1), figureAt(place + 2),
                            figureAt(place + 3), figureAt(place + 4));
                    place += BLANKET_LETTERS;
                } else {
                    bed.place(parts.sleepers, figureAt(place + 1));
                    parts.addSleeper(figureAt(place + 2));
                    place += SLEEPER_LETTERS;
                }
            }
        }
    }

    /** What no act changes: the blankets' cells, centuries, kinds, and how wide sleepers are. */
    private static final class Parts {
        final int[] first = new int[MOST_BLANKETS];
        final int[] last = new int[MOST_BLANKETS];
        final int[] century = new int[MOST_BLANKETS];
        final int[] kind = new int[MOST_BLANKETS];
        final int[] wide = new int[MOST_SLEEPERS];
        int blankets;
        int sleepers;

        void clear() {
            blankets = 0;
            sleepers = 0;
        }

        void addBlanket(int from, int to, int ofCentury, int ofKind) {
            if (blankets < MOST_BLANKETS) {
                first[blankets] = from;
                last[blankets] = to;
                century[blankets] = ofCentury;
                kind[blankets] = ofKind;
                blankets++;
            }
        }

        void addSleeper(int howWide) {
            if (sleepers < MOST_SLEEPERS) {
                wide[sleepers] = howWide;
                sleepers++;
            }
        }

        boolean hasBlanket(int number) {
            return number >= 0 && number < blankets;
        }

        boolean hasSleeper(int number) {
            return number >= 0 && number < sleepers;
        }

        boolean reaches(int number, int where) {
            return number >= 0 && number < blankets && first[number] <= where && where <= last[number];
        }

        // A sheet is left out here: it counts only where no other blanket lies.
        boolean countsAmongOthers(int number, int where) {
            return kind[number] == PLAIN || kind[number] == QUILT
                    || kind[number] == MOTHED && where % 2 == 0;
        }

        int centuryOn(int number, int where) {
            int told = century[number];
            return kind[number] == QUILT ? (told + where) % 10 : told;
        }
    }

    /** All that acts change: how blankets and sleepers lie, who has woken when, the night. */
    private static final class Layout {
        private final int[] fromLowest = new int[MOST_BLANKETS];
        int laid;
        final int[] at = new int[MOST_SLEEPERS];
        final int[] woken = new int[MOST_SLEEPERS];
        int night;

        void clear() {
            laid = 0;
            night = 0;
            for (int i = 0; i < MOST_SLEEPERS; i++) {
                at[i] = 0;
                woken[i] = 0;
            }
        }

        void copyFrom(Layout other) {
            laid = other.laid;
            night = other.night;
            for (int i = 0; i < MOST_BLANKETS; i++) {
                fromLowest[i] = other.fromLowest[i];
            }
            for (int i = 0; i < MOST_SLEEPERS; i++) {
                at[i] = other.at[i];
                woken[i] = other.woken[i];
            }
        }

        void place(int sleeper, int from) {
            if (sleeper >= 0 && sleeper < MOST_SLEEPERS) {
                at[sleeper] = from;
            }
        }

        int blanketAt(int level) {
            return level >= 0 && level < laid ? fromLowest[level] : NONE;
        }

        int levelOf(int blanket) {
            for (int level = 0; level < laid; level++) {
                if (fromLowest[level] == blanket) {
                    return level;
                }
            }
            return NONE;
        }

        boolean takeOff(int blanket) {
            int level = levelOf(blanket);
            if (level == NONE) {
                return false;
            }
            for (int i = level; i + 1 < laid; i++) {
                fromLowest[i] = fromLowest[i + 1];
            }
            laid--;
            return true;
        }

        boolean layOnTop(int blanket) {
            if (laid >= MOST_BLANKETS || levelOf(blanket) != NONE) {
                return false;
            }
            fromLowest[laid] = blanket;
            laid++;
            return true;
        }

        boolean tuckUnder(int blanket) {
            if (!layOnTop(blanket)) {
                return false;
            }
            for (int i = laid - 1; i > 0; i--) {
                swapLevels(i, i - 1);
            }
            return true;
        }

        private void swapLevels(int one, int other) {
            int held = fromLowest[one];
            fromLowest[one] = fromLowest[other];
            fromLowest[other] = held;
        }

        int asBits() {
            int bits = 0;
            for (int i = 0; i < laid; i++) {
                bits |= 1 << fromLowest[i];
            }
            return bits;
        }

        int asFigures() {
            int figures = 0;
            for (int i = 0; i < laid; i++) {
                figures = 10 * figures + fromLowest[i] + 1;
            }
            return figures;
        }

        void toFirstOrder() {
            int bits = asBits();
            laid = 0;
            for (int b = 0; b < MOST_BLANKETS; b++) {
                if ((bits >> b & 1) != 0) {
                    layOnTop(b);
                }
            }
        }

        /** On to the order whose figures are the next greater number; false if this was the last. */
        boolean toNextOrder() {
            int pivot = laid - 2;
            while (pivot >= 0 && fromLowest[pivot] > fromLowest[pivot + 1]) {
                pivot--;
            }
            if (pivot < 0) {
                return false;
            }
            int greater = laid - 1;
            while (greater > pivot + 1 && fromLowest[greater] < fromLowest[pivot]) {
                greater--;
            }
            swapLevels(pivot, greater);
            for (int low = pivot + 1, high = laid - 1; low < high; low++, high--) {
                swapLevels(low, high);
            }
            return true;
        }
    }

    /** When each cell is, and in which time one wakes there. */
    private static final class Cells {
        private final Parts parts;
        final int[] time = new int[CELLS];

        Cells(Parts parts) {
            this.parts = parts;
        }

        /** The bits of without are blankets looked upon as taken. */
        int timeOf(Layout bed, int without, int cell) {
            int lying = 0;
            int lowest = NONE;
            for (int level = 0; level < bed.laid; level++) {
                int blanket = bed.blanketAt(level);
                if ((without >> blanket & 1) == 0 && parts.reaches(blanket, cell)) {
                    if (parts.countsAmongOthers(blanket, cell)) {
                        return parts.centuryOn(blanket, cell);
                    }
                    lying++;
                    lowest = blanket;
                }
            }
            boolean loneSheet = lying == 1 && parts.kind[lowest] == SHEET;
            return loneSheet ? parts.centuryOn(lowest, cell) : MODERN;
        }

        void reckon(Layout bed, int without) {
            for (int cell = 0; cell < CELLS; cell++) {
                time[cell] = timeOf(bed, without, cell);
            }
        }

        /** The time that most of these cells are; of like ones the least. */
        static int commonest(int[] times, int from, int wide) {
            int start = Math.max(from, 0);
            int end = Math.min(from + wide, times.length);
            int best = MODERN;
            int most = 0;
            for (int i = start; i < end; i++) {
                int alike = 0;
                for (int j = start; j < end; j++) {
                    if (times[j] == times[i]) {
                        alike++;
                    }
                }
                if (alike > most || alike == most && times[i] < best) {
                    most = alike;
                    best = times[i];
                }
            }
            return best;
        }

        int wakes(Layout bed, int without, int sleeper) {
            int end = Math.min(bed.at[sleeper] + parts.wide[sleeper], CELLS);
            for (int cell = Math.max(bed.at[sleeper], 0); cell < end; cell++) {
                time[cell] = timeOf(bed, without, cell);
            }
            return wakesAsReckoned(bed, sleeper);
        }

        int wakesAsReckoned(Layout bed, int sleeper) {
            return commonest(time, bed.at[sleeper], parts.wide[sleeper]);
        }

        int wakingsTogether(Layout bed) {
            reckon(bed, 0);
            int together = 0;
            for (int s = 0; s < parts.sleepers; s++) {
                together += wakesAsReckoned(bed, s);
            }
            return together;
        }

        int modernBits(Layout bed) {
            int bits = 0;
            for (int cell = 0; cell < CELLS; cell++) {
                if (timeOf(bed, 0, cell) == MODERN) {
                    bits |= 1 << cell;
                }
            }
            return bits;
        }

        int howManyNotModern(Layout bed, int without) {
            int many = 0;
            for (int cell = 0; cell < CELLS; cell++) {
                if (timeOf(bed, without, cell) != MODERN) {
                    many++;
                }
            }
            return many;
        }

        int blanketsOn(Layout bed, int cell) {
            int many = 0;
            for (int level = 0; level < bed.laid; level++) {
                if (parts.reaches(bed.blanketAt(level), cell)) {
                    many++;
                }
            }
            return many;
        }

        int sleeperOn(Layout bed, int cell) {
            for (int s = 0; s < parts.sleepers; s++) {
                if (bed.at[s] <= cell && cell < bed.at[s] + parts.wide[s]) {
                    return s;
                }
            }
            return NONE;
        }
    }

    /** Acts upon a layout, be it the bed itself or one to try them on. */
    private static final class Acts {
        private final Parts parts;
        private final Cells cells;

        Acts(Parts parts, Cells cells) {
            this.parts = parts;
            this.cells = cells;
        }

        /** False, and nothing is changed, if it can not be. */
        boolean perform(Layout bed, int how, int who) {
            switch (how) {
                case NIGHT:
                    return who == 0 && sleepThrough(bed);
                case TAKEN:
                    return parts.hasBlanket(who) && bed.takeOff(who);
                case LAID:
                    return parts.hasBlanket(who) && bed.layOnTop(who);
                case TUCKED:
                    return parts.hasBlanket(who) && bed.tuckUnder(who);
                case TURNED_ON:
                    return parts.hasSleeper(who) && moveTo(bed, who, bed.at[who] + 1);
                case TURNED_BACK:
                    return parts.hasSleeper(who) && moveTo(bed, who, bed.at[who] - 1);
                default:
                    return false;
            }
        }

        private boolean sleepThrough(Layout bed) {
            cells.reckon(bed, 0);
            for (int s = 0; s < parts.sleepers; s++) {
                bed.woken[s] |= 1 << cells.wakesAsReckoned(bed, s);
            }
            bed.night++;
            return true;
        }

        private boolean moveTo(Layout bed, int sleeper, int from) {
            int end = from + parts.wide[sleeper];
            if (from < 0 || end > CELLS) {
                return false;
            }
            for (int cell = from; cell < end; cell++) {
                int there = cells.sleeperOn(bed, cell);
                if (there != NONE && there != sleeper) {
                    return false;
                }
            }
            bed.place(sleeper, from);
            return true;
        }
    }

    /** The last acts, each as how all lay ahead of it. */
    private static final class Row {
        private final Layout[] ahead = new Layout[MOST_ACTS];
        private int next;
        int length;

        Row() {
            for (int i = 0; i < MOST_ACTS; i++) {
                ahead[i] = new Layout();
            }
        }

        void forgetAll() {
            length = 0;
        }

        void remember(Layout bed) {
            ahead[next].copyFrom(bed);
            next = (next + 1) % MOST_ACTS;
            length = Math.min(length + 1, MOST_ACTS);
        }

        boolean goBack(Layout bed) {
            if (length == 0) {
                return false;
            }
            next = (next + MOST_ACTS - 1) % MOST_ACTS;
            length--;
            bed.copyFrom(ahead[next]);
            return true;
        }
    }

    /** What could be done so that a sleeper wakes in a time. */
    private static final class Plans {
        private final Parts parts;
        private final Cells cells;
        private final Acts acts;
        private final int[] tucked = new int[CELLS];

        Plans(Parts parts, Cells cells, Acts acts) {
            this.parts = parts;
            this.cells = cells;
            this.acts = acts;
        }

        int fewestTaken(Layout bed, int sleeper, int t) {
            int lying = bed.asBits();
            int best = NONE;
            int fewest = MOST_BLANKETS + 1;
            for (int bits = 0; bits < SUBSETS; bits++) {
                boolean fewer = (bits & ~lying) == 0 && Integer.bitCount(bits) < fewest;
                if (fewer && cells.wakes(bed, bits, sleeper) == t) {
                    best = bits;
                    fewest = Integer.bitCount(bits);
                }
            }
            return best;
        }

        int fewestTurns(Layout bed, int sleeper, int t) {
            cells.reckon(bed, 0);
            int from = bed.at[sleeper];
            if (wouldWake(sleeper, from, t)) {
                return 0;
            }
            for (int by = 1; by < CELLS; by++) {
                if (wouldWake(sleeper, from + by, t)) {
                    return 10 + by;
                }
                if (wouldWake(sleeper, from - by, t)) {
                    return 20 + by;
                }
            }
            return NONE;
        }

        private boolean wouldWake(int sleeper, int from, int t) {
            int wide = parts.wide[sleeper];
            return from >= 0 && from + wide <= CELLS && Cells.commonest(cells.time, from, wide) == t;
        }

        int shortestTucked(Layout bed, int sleeper, int t) {
            cells.reckon(bed, 0);
            if (cells.wakesAsReckoned(bed, sleeper) == t) {
                return 0;
            }
            for (int many = 1; many <= CELLS; many++) {
                for (int first = 0; first + many <= CELLS; first++) {
                    tuckOnto(first, many, t);
                    if (Cells.commonest(tucked, bed.at[sleeper], parts.wide[sleeper]) == t) {
                        return 10 * many + first;
                    }
                }
            }
            return NONE;
        }

        // A plain blanket below all others is the lowest that counts wherever it lies.
        private void tuckOnto(int first, int many, int t) {
            for (int cell = 0; cell < CELLS; cell++) {
                tucked[cell] = first <= cell && cell < first + many ? t : cells.time[cell];
            }
        }

        int howManyOrders(Layout trial, int sleeper, int t) {
            trial.toFirstOrder();
            int many = 0;
            boolean more = true;
            for (int i = 0; i < MOST_ORDERS && more; i++) {
                if (cells.wakes(trial, 0, sleeper) == t) {
                    many++;
                }
                more = trial.toNextOrder();
            }
            return many;
        }

        int firstOrder(Layout trial, int sleeper, int t) {
            trial.toFirstOrder();
            boolean more = true;
            for (int i = 0; i < MOST_ORDERS && more; i++) {
                if (cells.wakes(trial, 0, sleeper) == t) {
                    return trial.asFigures();
                }
                more = trial.toNextOrder();
            }
            return NONE;
        }

        int firstImpossible(Layout trial, int things, int told) {
            int unit = 1;
            for (int i = 1; i < things; i++) {
                unit *= 100;
            }
            for (int i = 0; i < things; i++) {
                int thing = told / unit % 100;
                if (!acts.perform(trial, thing / 10, thing % 10)) {
                    return i;
                }
                unit = Math.max(unit / 100, 1);
            }
            return NONE;
        }
    }

    /** In which times sleepers were seen to wake. */
    private static final class Seen {
        private final Parts parts;
        private final Cells cells;
        private final int[] who = new int[MOST_SEEN];
        private final int[] when = new int[MOST_SEEN];
        int count;

        Seen(Parts parts, Cells cells) {
            this.parts = parts;
            this.cells = cells;
        }

        boolean note(int sleeper, int t) {
            if (count >= MOST_SEEN) {
                return false;
            }
            who[count] = sleeper;
            when[count] = t;
            count++;
            return true;
        }

        int explainedBy(Layout bed) {
            int bits = isSo(bed, 0) ? 1 << MOST_BLANKETS : 0;
            for (int level = 0; level < bed.laid; level++) {
                int taken = 1 << bed.blanketAt(level);
                if (isSo(bed, taken)) {
                    bits |= taken;
                }
            }
            return bits;
        }

        private boolean isSo(Layout bed, int without) {
            cells.reckon(bed, without);
            for (int i = 0; i < count; i++) {
                if (parts.hasSleeper(who[i]) && cells.wakesAsReckoned(bed, who[i]) != when[i]) {
                    return false;
                }
            }
            return true;
        }
    }

    /** Shares of blankets, places at rest, and what chance kicks off. */
    private static final class Chances {
        private static final int[] FACTORIALS = {1, 1, 2, 6, 24, 120, 720};

        private final Parts parts;
        private final Cells cells;
        private final int[] oneLoses = new int[CELLS];
        private final int[] otherLoses = new int[CELLS];
        private int oneWide;
        private int otherWide;

        Chances(Parts parts, Cells cells) {
            this.parts = parts;
            this.cells = cells;
        }

        int shareOf(Layout bed, int blanket, boolean upper) {
            int own = 1 << blanket;
            int lying = bed.asBits();
            if ((lying & own) == 0) {
                return fraction(0, 1, upper);
            }
            int sum = 0;
            for (int come = 0; come < SUBSETS; come++) {
                if ((come & ~lying) == 0 && (come & own) == 0) {
                    int more = cells.howManyNotModern(bed, lying & ~(come | own))
                            - cells.howManyNotModern(bed, lying & ~come);
                    sum += more * ordersAround(Integer.bitCount(come), bed.laid);
                }
            }
            return fraction(sum, factorial(bed.laid), upper);
        }

        // In so many of all orders just those have come ahead of one blanket.
        private static int ordersAround(int ahead, int all) {
            return factorial(ahead) * factorial(all - 1 - ahead);
        }

        private static int factorial(int n) {
            return n >= 0 && n < FACTORIALS.length ? FACTORIALS[n] : 1;
        }

        int chanceKicked(Layout bed, int sleeper, int t, int tenths, boolean upper) {
            int lying = bed.asBits();
            int likely = 0;
            for (int taken = 0; taken < SUBSETS; taken++) {
                if ((taken & ~lying) == 0 && cells.wakes(bed, taken, sleeper) == t) {
                    int many = Integer.bitCount(taken);
                    likely += power(tenths, many) * power(TENTHS - tenths, bed.laid - many);
                }
            }
            return fraction(likely, power(TENTHS, bed.laid), upper);
        }

        private static int power(int base, int times) {
            int product = 1;
            for (int i = 0; i < times; i++) {
                product *= base;
            }
            return product;
        }

        private static int fraction(int above, int below, boolean upper) {
            int common = Math.abs(above);
            int rest = below;
            // Far more steps than Euclid needs for numbers of 31 bits.
            for (int i = 0; i < 100 && rest != 0; i++) {
                int left = common % rest;
                common = rest;
                rest = left;
            }
            int told = upper ? above : below;
            return common == 0 ? told : told / common;
        }

        /** Made ready for the rests of two sleepers, by the times that are reckoned. */
        void weighPlaces(int one, int t, int other, int u) {
            oneWide = parts.wide[one];
            otherWide = parts.wide[other];
            for (int from = 0; from < CELLS; from++) {
                oneLoses[from] = Math.abs(Cells.commonest(cells.time, from, oneWide) - t);
                otherLoses[from] = Math.abs(Cells.commonest(cells.time, from, otherWide) - u);
            }
        }

        int howManyRests() {
            int many = 0;
            for (int p = 0; p + oneWide <= CELLS; p++) {
                for (int q = 0; q + otherWide <= CELLS; q++) {
                    if (isRest(p, q)) {
                        many++;
                    }
                }
            }
            return many;
        }

        int firstRest() {
            for (int p = 0; p + oneWide <= CELLS; p++) {
                for (int q = 0; q + otherWide <= CELLS; q++) {
                    if (isRest(p, q)) {
                        return 10 * p + q;
                    }
                }
            }
            return NONE;
        }

        private boolean isRest(int p, int q) {
            int shared = lostBySharing(p, q);
            for (int from = 0; from + oneWide <= CELLS; from++) {
                if (oneLoses[from] + lostBySharing(from, q) < oneLoses[p] + shared) {
                    return false;
                }
            }
            for (int from = 0; from + otherWide <= CELLS; from++) {
                if (otherLoses[from] + lostBySharing(p, from) < otherLoses[q] + shared) {
                    return false;
                }
            }
            return true;
        }

        private int lostBySharing(int p, int q) {
            return p < q + otherWide && q < p + oneWide ? LOST_BY_SHARING : 0;
        }
    }
}
