import java.util.NoSuchElementException;

/** A yard of fallen drums: see ../shared/DOC.md, whose words in capitals the comments here use. */
public final class DrumYard {
    public static final int NONE = -1;
    public static final int NEW = 10;

    private static final int MOST_DRUMS = 10;
    private static final int MOST_COLUMNS = 4;
    private static final int MOST_PLACES_OF_COLUMN = 5;
    private static final int MOST_PLACES = 8;

    private final Drums drums;
    private final Columns columns;
    private final Words words;
    private final Paper paper;
    private int tol;
    private int stone;
    private int ahead;
    private boolean paperIsStale;

    public DrumYard() {
        drums = new Drums();
        columns = new Columns();
        words = new Words();
        paper = new Paper();
        tol = 5;
        stone = 500;
        ahead = 1;
        paperIsStale = true;
    }

    public boolean measure(int below, int above, int doubt, int height) {
        if (!isWidth(below) || !isWidth(above)
                || !isWithin(doubt, 0, 50) || !isWithin(height, 1, 2000)) {
            return false;
        }
        drums.keepMeasured(below, above, doubt, height);
        return true;
    }

    public int drum(int flutes, int below, int above, int weight, int strength) {
        if (!isWithin(flutes, 0, 40) || !isHoles(below) || !isHoles(above)
                || !isWithin(weight, 1, 10000) || !isWithin(strength, 0, 100000)
                || !drums.canTakeOne()) {
            return NONE;
        }
        paperIsStale = true;
        return drums.take(flutes, below, above, weight, strength);
    }

    public boolean set(int tol, int stone, int ahead) {
        if (!isWithin(tol, 0, 50) || !isWithin(stone, 1, 10000) || !isWithin(ahead, 1, 5)) {
            return false;
        }
        if (tol != this.tol) {
            paperIsStale = true;
        }
        this.tol = tol;
        this.stone = stone;
        this.ahead = ahead;
        return true;
    }

    public int column(int places, int foot, int head) {
        if (!isWithin(places, 1, MOST_PLACES_OF_COLUMN)
                || !isWidthOrUntold(foot) || !isWidthOrUntold(head)
                || !columns.canTakeOne(places)) {
            return NONE;
        }
        paperIsStale = true;
        return columns.take(places, foot, head);
    }

    public int turn(int above, int below) {
        return drums.turnOn(above, below, tol);
    }

    public int fits(int drum, int column) {
        if (!drums.has(drum) || !columns.has(column)) {
            return NONE;
        }
        int bits = 0;
        if (fitsFoot(drum, column)) {
            bits |= 1;
        }
        if (fitsHead(drum, column)) {
            bits |= 2;
        }
        return bits;
    }

    public boolean hand(int place, int drum) {
        if (!columns.hasPlace(place) || (drum != NONE && drum != NEW && !drums.has(drum))) {
            return false;
        }
        if (drum != words.toldOf(place)) {
            paperIsStale = true;
        }
        words.tell(place, drum);
        return true;
    }

    public boolean not(int place, int drum, boolean is) {
        if (!columns.hasPlace(place) || !drums.has(drum) || words.isBarred(place, drum) == is) {
            return false;
        }
        words.bar(place, drum, is);
        paperIsStale = true;
        return true;
    }

    public int least() {
        drawPaper();
        return paper.leastNew();
    }

    public long ways() {
        drawPaper();
        return paper.bestWays();
    }

    public int first(int place) {
        if (!columns.hasPlace(place)) {
            return NONE;
        }
        drawPaper();
        return paper.firstAt(place);
    }

    public int sure(int drum) {
        if (!drums.has(drum)) {
            return NONE;
        }
        drawPaper();
        for (int place = 0; place < columns.placeNumber(); place++) {
            if (paper.bestHeldAt(place) == 1 << drum) {
                return place;
            }
        }
        return NONE;
    }

    public int open(int drum) {
        if (!drums.has(drum)) {
            return 0;
        }
        drawPaper();
        int bits = 0;
        for (int place = 0; place < columns.placeNumber(); place++) {
            if (hasBit(paper.bestHeldAt(place), drum)) {
                bits |= 1 << place;
            }
        }
        return bits;
    }

    public int bears(int drum) {
        if (!drums.has(drum)) {
            return NONE;
        }
        drawPaper();
        for (int place = 0; place < columns.placeNumber(); place++) {
            if (paper.firstAt(place) == drum) {
                return loadOver(place);
            }
        }
        return NONE;
    }

    public int cracked() {
        drawPaper();
        int bits = 0;
        for (int place = 0; place < columns.placeNumber(); place++) {
            int drum = paper.firstAt(place);
            if (drums.has(drum) && loadOver(place) > drums.fact(drum, Drums.STRENGTH)) {
                bits |= 1 << drum;
            }
        }
        return bits;
    }

    public int setting(int i) {
        drawPaper();
        if (i < 0 || i >= columns.placeNumber() || !paper.hasWay()) {
            return NONE;
        }
        return columns.placeOfStone(i, ahead);
    }

    public int tall(int column) {
        drawPaper();
        if (!columns.has(column) || !paper.hasWay()) {
            return NONE;
        }
        int sum = 0;
        int end = columns.endOf(column);
        for (int place = columns.startOf(column); place < end; place++) {
            sum += heightOf(paper.firstAt(place));
        }
        return sum;
    }

    public int told(int drum, int what) throws NoSuchElementException {
        if (!drums.has(drum) || !isWithin(what, 0, Drums.FACTS - 1)) {
            throw new NoSuchElementException();
        }
        return drums.fact(drum, what);
    }

    public int place(int place, int what) {
        if (!columns.hasPlace(place)) {
            return NONE;
        }
        switch (what) {
            case 0:
                return columns.columnOf(place);
            case 1:
                return place - columns.startOf(columns.columnOf(place));
            case 2:
                return words.toldOf(place);
            default:
                return NONE;
        }
    }

    public int count(int what) {
        switch (what) {
            case 0:
                return drums.number();
            case 1:
                return columns.number();
            case 2:
                return columns.placeNumber();
            case 3:
                return drums.pairsLying(tol);
            case 4:
                return words.toldNumber();
            default:
                return NONE;
        }
    }

    private static boolean isWithin(int value, int low, int high) {
        return value >= low && value <= high;
    }

    private static boolean isWidth(int value) {
        return isWithin(value, 100, 3000);
    }

    private static boolean isWidthOrUntold(int value) {
        return value == 0 || isWidth(value);
    }

    private static boolean isHoles(int value) {
        return isWithin(value, 0, 65535);
    }

    private static boolean hasBit(int bits, int bit) {
        return ((bits >> bit) & 1) != 0;
    }

    private boolean fitsFoot(int drum, int column) {
        return agrees(drum, drums.fact(drum, Drums.BELOW), columns.footOf(column));
    }

    private boolean fitsHead(int drum, int column) {
        return agrees(drum, drums.fact(drum, Drums.ABOVE), columns.headOf(column));
    }

    private boolean agrees(int drum, int width, int wanted) {
        return wanted == 0 || Math.abs(width - wanted) <= drums.fact(drum, Drums.DOUBT) + tol;
    }

    private int loadOver(int place) {
        int sum = 0;
        int end = columns.endOf(columns.columnOf(place));
        for (int over = place + 1; over < end; over++) {
            int lying = paper.firstAt(over);
            sum += lying == NEW ? stone : drums.fact(lying, Drums.WEIGHT);
        }
        return sum;
    }

    private int heightOf(int lying) {
        return lying == NEW ? drums.meanHeight() : drums.fact(lying, Drums.HEIGHT);
    }

    /** Only when asked for, so that all words between two questions cost one search. */
    private void drawPaper() {
        if (!paperIsStale) {
            return;
        }
        paper.clear(columns.placeNumber());
        for (int drum = 0; drum < drums.number(); drum++) {
            paper.allowOver(drum, drums.lyingOn(drum, tol));
        }
        for (int place = 0; place < columns.placeNumber(); place++) {
            paper.allowAt(place, itemsAllowedAt(place), columns.isHead(place));
        }
        paper.findBest();
        paperIsStale = false;
    }

    private int itemsAllowedAt(int place) {
        int column = columns.columnOf(place);
        int items = 1 << NEW;
        for (int drum = 0; drum < drums.number(); drum++) {
            if (!words.isBarred(place, drum)
                    && (!columns.isFoot(place) || fitsFoot(drum, column))
                    && (!columns.isHead(place) || fitsHead(drum, column))) {
                items |= 1 << drum;
            }
        }
        int told = words.toldOf(place);
        return told == NONE ? items : items & (1 << told);
    }

    /** The DRUMS, each a row of what told() tells of it. */
    private static final class Drums {
        private static final int BELOW = 0;
        private static final int ABOVE = 1;
        private static final int DOUBT = 2;
        private static final int HEIGHT = 3;
        private static final int FLUTES = 4;
        private static final int HOLES_BELOW = 5;
        private static final int HOLES_ABOVE = 6;
        private static final int WEIGHT = 7;
        private static final int STRENGTH = 8;
        private static final int FACTS = 9;
        private static final int DIRECTIONS = 16;
        private static final int ALL_DIRECTIONS = 65535;

        private final int[][] facts;
        private final int[] measured;
        private boolean isMeasured;
        private int number;

        Drums() {
            facts = new int[MOST_DRUMS][FACTS];
            measured = new int[FACTS];
        }

        int number() {
            return number;
        }

        boolean has(int drum) {
            return drum >= 0 && drum < number;
        }

        int fact(int drum, int what) {
            if (!has(drum) || what < 0 || what >= FACTS) {
                return 0;
            }
            return facts[drum][what];
        }

        void keepMeasured(int below, int above, int doubt, int height) {
            measured[BELOW] = below;
            measured[ABOVE] = above;
            measured[DOUBT] = doubt;
            measured[HEIGHT] = height;
            isMeasured = true;
        }

        boolean canTakeOne() {
            return isMeasured && number < MOST_DRUMS;
        }

        int take(int flutes, int below, int above, int weight, int strength) {
            if (!canTakeOne()) {
                return NONE;
            }
            measured[FLUTES] = flutes;
            measured[HOLES_BELOW] = below;
            measured[HOLES_ABOVE] = above;
            measured[WEIGHT] = weight;
            measured[STRENGTH] = strength;
            System.arraycopy(measured, 0, facts[number], 0, FACTS);
            isMeasured = false;
            number++;
            return number - 1;
        }

        int turnOn(int upper, int lower, int tol) {
            if (!has(upper) || !has(lower) || upper == lower) {
                return NONE;
            }
            int[] one = facts[upper];
            int[] other = facts[lower];
            int slack = one[DOUBT] + other[DOUBT] + tol;
            if (Math.abs(one[BELOW] - other[ABOVE]) > slack
                    || !areAlike(one[FLUTES], other[FLUTES])) {
                return NONE;
            }
            return leastTurn(one[HOLES_BELOW], other[HOLES_ABOVE]);
        }

        /** As bits, the DRUMS that LIE ON one. */
        int lyingOn(int lower, int tol) {
            int bits = 0;
            for (int upper = 0; upper < number; upper++) {
                if (turnOn(upper, lower, tol) != NONE) {
                    bits |= 1 << upper;
                }
            }
            return bits;
        }

        /** Two that lie on each other either way are two pairs: each has its own upper one. */
        int pairsLying(int tol) {
            int pairs = 0;
            for (int lower = 0; lower < number; lower++) {
                pairs += Integer.bitCount(lyingOn(lower, tol));
            }
            return pairs;
        }

        int meanHeight() {
            int sum = 0;
            for (int drum = 0; drum < number; drum++) {
                sum += facts[drum][HEIGHT];
            }
            return number == 0 ? 0 : sum / number;
        }

        private static boolean areAlike(int flutes, int others) {
            return flutes == 0 || others == 0 || flutes == others;
        }

        private static int leastTurn(int holes, int wanted) {
            if (holes == 0 || wanted == 0) {
                return 0;
            }
            for (int r = 0; r < DIRECTIONS; r++) {
                if (turned(holes, r) == wanted) {
                    return r;
                }
            }
            return NONE;
        }

        private static int turned(int holes, int r) {
            int twice = holes << r;
            return (twice | (twice >> DIRECTIONS)) & ALL_DIRECTIONS;
        }
    }

    /** The COLUMNS with their PLACES, and the order in which a crane fills them. */
    private static final class Columns {
        private final int[] start;
        private final int[] size;
        private final int[] foot;
        private final int[] head;
        private final int[] columnAt;
        private final int[] stones;
        private int number;
        private int placeNumber;

        Columns() {
            start = new int[MOST_COLUMNS];
            size = new int[MOST_COLUMNS];
            foot = new int[MOST_COLUMNS];
            head = new int[MOST_COLUMNS];
            columnAt = new int[MOST_PLACES];
            stones = new int[MOST_COLUMNS];
        }

        int number() {
            return number;
        }

        int placeNumber() {
            return placeNumber;
        }

        boolean has(int column) {
            return column >= 0 && column < number;
        }

        boolean hasPlace(int place) {
            return place >= 0 && place < placeNumber;
        }

        boolean canTakeOne(int places) {
            return number < MOST_COLUMNS && placeNumber + places <= MOST_PLACES;
        }

        int take(int places, int footWidth, int headWidth) {
            if (!canTakeOne(places)) {
                return NONE;
            }
            start[number] = placeNumber;
            size[number] = places;
            foot[number] = footWidth;
            head[number] = headWidth;
            for (int i = 0; i < places; i++) {
                columnAt[placeNumber + i] = number;
            }
            placeNumber += places;
            number++;
            return number - 1;
        }

        int columnOf(int place) {
            return hasPlace(place) ? columnAt[place] : NONE;
        }

        int startOf(int column) {
            return has(column) ? start[column] : 0;
        }

        int endOf(int column) {
            return has(column) ? start[column] + size[column] : 0;
        }

        int footOf(int column) {
            return has(column) ? foot[column] : 0;
        }

        int headOf(int column) {
            return has(column) ? head[column] : 0;
        }

        boolean isFoot(int place) {
            return place == startOf(columnOf(place));
        }

        boolean isHead(int place) {
            return place + 1 == endOf(columnOf(place));
        }

        int placeOfStone(int stone, int ahead) {
            for (int column = 0; column < number; column++) {
                stones[column] = 0;
            }
            int place = NONE;
            for (int i = 0; i <= stone && i < placeNumber; i++) {
                int column = nextColumn(ahead);
                if (column == NONE) {
                    return NONE;
                }
                place = start[column] + stones[column];
                stones[column]++;
            }
            return place;
        }

        /**
         * AHEAD is at least 1, so one that is not full and has the fewest stones may always take
         * the next: the document's second choice never comes up, and none is left only if all are
         * full.
         */
        private int nextColumn(int ahead) {
            for (int column = 0; column < number; column++) {
                int fewest = stones[column] + 1 - ahead;
                if (!isFull(column) && allowsNext(column - 1, fewest)
                        && allowsNext(column + 1, fewest)) {
                    return column;
                }
            }
            return NONE;
        }

        private boolean isFull(int column) {
            return stones[column] >= size[column];
        }

        private boolean allowsNext(int neighbour, int fewest) {
            return !has(neighbour) || isFull(neighbour) || stones[neighbour] >= fewest;
        }
    }

    /** A hand's word of each PLACE. */
    private static final class Words {
        private final int[] told;
        private final int[] barred;

        Words() {
            told = new int[MOST_PLACES];
            barred = new int[MOST_PLACES];
            for (int place = 0; place < MOST_PLACES; place++) {
                told[place] = NONE;
            }
        }

        void tell(int place, int item) {
            if (isRow(place)) {
                told[place] = item;
            }
        }

        int toldOf(int place) {
            return isRow(place) ? told[place] : NONE;
        }

        int toldNumber() {
            int sum = 0;
            for (int place = 0; place < MOST_PLACES; place++) {
                if (told[place] != NONE) {
                    sum++;
                }
            }
            return sum;
        }

        void bar(int place, int drum, boolean is) {
            if (isRow(place)) {
                int others = barred[place] & ~(1 << drum);
                barred[place] = is ? others | (1 << drum) : others;
            }
        }

        boolean isBarred(int place, int drum) {
            return isRow(place) && hasBit(barred[place], drum);
        }

        private static boolean isRow(int place) {
            return place >= 0 && place < MOST_PLACES;
        }
    }

    /**
     * All BEST WAYS at once. The PLACES are filled in their order; what has come before matters
     * only by which DRUMS are used and by what lies under the next PLACE, so all beginnings alike
     * in both are one STATE: the used DRUMS as bits, times ITEMS, and the item below. An item is a
     * DRUM or NEW.
     */
    private static final class Paper {
        private static final int ITEMS = NEW + 1;
        private static final int ALL_ITEMS = (1 << ITEMS) - 1;
        /** No DRUM used, and nothing below, which bears all as new stone does. */
        private static final int START = NEW;
        private static final int STATES = (1 << MOST_DRUMS) * ITEMS;
        /** The item below is NEW or a used one, so of all sets come 1,024 STATES and 5,120. */
        private static final int MOST_REACHED = 6144;

        private final int[] allowed;
        private final boolean[] isHead;
        private final int[] over;
        private final int[] bestHeld;
        private final int[] firstWay;
        /** By how many PLACES are filled and by STATE: how many beginnings lead there. */
        private final long[][] beginnings;
        private final int[][] reached;
        private final int[] reachedNumber;
        /** How many were reached at a PLACE with fewer new stones than the first index tells. */
        private final int[][] reachedWithFewer;
        private int places;
        private int leastNew;
        private long bestWays;

        Paper() {
            allowed = new int[MOST_PLACES];
            isHead = new boolean[MOST_PLACES];
            over = new int[ITEMS];
            bestHeld = new int[MOST_PLACES];
            firstWay = new int[MOST_PLACES];
            beginnings = new long[MOST_PLACES + 1][STATES];
            reached = new int[MOST_PLACES + 1][MOST_REACHED];
            reachedNumber = new int[MOST_PLACES + 1];
            reachedWithFewer = new int[MOST_PLACES + 2][MOST_PLACES + 1];
            leastNew = NONE;
        }

        int leastNew() {
            return leastNew;
        }

        long bestWays() {
            return bestWays;
        }

        boolean hasWay() {
            return leastNew != NONE;
        }

        int firstAt(int place) {
            return isPlace(place) ? firstWay[place] : NONE;
        }

        /** As bits, the items that some BEST has at a PLACE. */
        int bestHeldAt(int place) {
            return isPlace(place) ? bestHeld[place] : 0;
        }

        void clear(int newPlaces) {
            for (int filled = 0; filled <= MOST_PLACES; filled++) {
                for (int i = 0; i < reachedNumber[filled]; i++) {
                    beginnings[filled][reached[filled][i]] = 0;
                }
                reachedNumber[filled] = 0;
            }
            for (int item = 0; item < ITEMS; item++) {
                over[item] = ALL_ITEMS;
            }
            places = Math.max(0, Math.min(newPlaces, MOST_PLACES));
        }

        void allowOver(int drum, int drumBits) {
            if (drum >= 0 && drum < MOST_DRUMS) {
                over[drum] = drumBits | (1 << NEW);
            }
        }

        void allowAt(int place, int itemBits, boolean head) {
            if (isPlace(place)) {
                allowed[place] = itemBits;
                isHead[place] = head;
            }
        }

        void findBest() {
            leastNew = NONE;
            for (int news = 0; news <= places && leastNew == NONE; news++) {
                reachWith(news);
                if (reachedNumber[places] > 0) {
                    leastNew = news;
                }
            }
            bestWays = 0;
            for (int i = 0; i < reachedNumber[places]; i++) {
                bestWays += beginnings[places][reached[places][i]];
            }
            dropAllButBest();
            walkFirst();
        }

        /** With few new stones first, so that what needs more than BEST is never looked at. */
        private void reachWith(int news) {
            for (int filled = 0; filled <= places; filled++) {
                if (filled > 0) {
                    spreadDrums(news, filled - 1);
                    spreadNew(news - 1, filled - 1);
                } else if (news == 0) {
                    reach(0, START, 1);
                }
                reachedWithFewer[news + 1][filled] = reachedNumber[filled];
            }
        }

        private void spreadDrums(int news, int place) {
            int end = reachedWithFewer[news + 1][place];
            for (int i = reachedWithFewer[news][place]; i < end; i++) {
                int state = reached[place][i];
                int items = itemsFor(place, state);
                long number = beginnings[place][state];
                for (int drum = 0; drum < MOST_DRUMS; drum++) {
                    if (hasBit(items, drum)) {
                        reach(place + 1, after(place, state, drum), number);
                    }
                }
            }
        }

        private void spreadNew(int news, int place) {
            if (news < 0 || !hasBit(allowed[place], NEW)) {
                return;
            }
            int end = reachedWithFewer[news + 1][place];
            for (int i = reachedWithFewer[news][place]; i < end; i++) {
                int state = reached[place][i];
                reach(place + 1, after(place, state, NEW), beginnings[place][state]);
            }
        }

        private void reach(int filled, int state, long number) {
            int end = reachedNumber[filled];
            if (beginnings[filled][state] == 0 && end < MOST_REACHED) {
                reached[filled][end] = state;
                reachedNumber[filled] = end + 1;
            }
            beginnings[filled][state] += number;
        }

        /** From the last PLACE back: a STATE from which no BEST goes on has its number put to 0. */
        private void dropAllButBest() {
            for (int place = places - 1; place >= 0; place--) {
                int held = 0;
                for (int i = 0; i < reachedNumber[place]; i++) {
                    int state = reached[place][i];
                    int items = itemsToBest(place, state);
                    if (items == 0) {
                        beginnings[place][state] = 0;
                    }
                    held |= items;
                }
                bestHeld[place] = held;
            }
        }

        private void walkFirst() {
            int state = START;
            for (int place = 0; place < places; place++) {
                int item = hasWay() ? lowest(itemsToBest(place, state)) : NONE;
                firstWay[place] = item;
                if (item != NONE) {
                    state = after(place, state, item);
                }
            }
        }

        private int itemsToBest(int place, int state) {
            int items = itemsFor(place, state);
            int good = 0;
            for (int item = 0; item < ITEMS; item++) {
                if (hasBit(items, item)
                        && beginnings[place + 1][after(place, state, item)] != 0) {
                    good |= 1 << item;
                }
            }
            return good;
        }

        private int itemsFor(int place, int state) {
            return allowed[place] & over[state % ITEMS] & ~(state / ITEMS);
        }

        /** Over a COLUMN's head nothing asks what lies below: beginnings alike but for it merge. */
        private int after(int place, int state, int item) {
            int used = state / ITEMS;
            if (item != NEW) {
                used |= 1 << item;
            }
            return used * ITEMS + (isHead[place] ? NEW : item);
        }

        private boolean isPlace(int place) {
            return place >= 0 && place < places;
        }

        private static int lowest(int items) {
            for (int item = 0; item < ITEMS; item++) {
                if (hasBit(items, item)) {
                    return item;
                }
            }
            return NONE;
        }
    }
}
