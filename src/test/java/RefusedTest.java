import java.util.List;
import java.util.function.Supplier;

/**
 * Each promise's own 'False: ..', 'NONE: ..', '0: ..' and 'NoSuchElementException: ..', in the empty
 * yard, a busy one and the full one; and of each such call that it changed nothing.
 */
public final class RefusedTest {
    private static final Due DUE = new Due("RefusedTest");
    private static final Refusals REFUSED = new Refusals(DUE);
    private static final int NONE = DrumYard.NONE;
    private static final int NEW = DrumYard.NEW;
    private static final int LOW = Yards.LOW;
    private static final int HIGH = Yards.HIGH;
    private static final Supplier<DrumYard> EMPTY = DrumYard::new;
    private static final Supplier<DrumYard> BUSY = Yards::busy;
    private static final Supplier<DrumYard> FULL = Yards::full;
    private static final Supplier<DrumYard> WITHOUT_WAY = Yards::withoutWay;
    private static final List<Supplier<DrumYard>> ALL = List.of(EMPTY, BUSY, FULL, WITHOUT_WAY);

    public static void main(String[] args) {
        measure();
        drumOfNothingMeasured();
        drumOutOfBounds();
        drumOfTen();
        set();
        columnOutOfBounds();
        columnOfFour();
        columnOfEightPlaces();
        turn();
        fits();
        hand();
        not();
        leastAndWays();
        first();
        sure();
        open();
        bears();
        cracked();
        setting();
        tall();
        told();
        place();
        count();
        DUE.end();
    }

    /** Numbers of none in a yard that has so many: the first outside at both ends, and far ones. */
    private static int[] outside(int number) {
        return new int[] {-1, number, number + 1, NEW, 32, 64, LOW, HIGH};
    }

    private static int[] outsideDrums(Supplier<DrumYard> made) {
        return outside(made.get().count(0));
    }

    private static int[] outsideColumns(Supplier<DrumYard> made) {
        return outside(made.get().count(1));
    }

    private static int[] outsidePlaces(Supplier<DrumYard> made) {
        return outside(made.get().count(2));
    }

    private static void measure() {
        DUE.of("of the next DRUM. False: out of bounds.");
        for (Supplier<DrumYard> made : ALL) {
            REFUSED.no("measure(99, ..)", made, yard -> yard.measure(99, 600, 1, 20));
            REFUSED.no("measure(.., 3001, ..)", made, yard -> yard.measure(600, 3001, 1, 20));
            REFUSED.no("measure(.., -1, ..)", made, yard -> yard.measure(600, 700, -1, 20));
            REFUSED.no("measure(.., 51, ..)", made, yard -> yard.measure(600, 700, 51, 20));
            REFUSED.no("measure(.., 0)", made, yard -> yard.measure(600, 700, 1, 0));
            REFUSED.no("measure(.., 2001)", made, yard -> yard.measure(600, 700, 1, 2001));
        }
        DUE.yes("measure() in the full yard", Yards.full().measure(100, 3000, 50, 2000));
    }

    private static void drumOfNothingMeasured() {
        DUE.of("NONE: nothing was since the last DRUM");
        Supplier<DrumYard> justMade = () -> Yards.ofAlike(3);
        REFUSED.is("nothing at all", EMPTY, yard -> yard.drum(0, 0, 0, 1, 1), NONE);
        REFUSED.is("nothing since", justMade, yard -> yard.drum(0, 0, 0, 1, 1), NONE);
        DrumYard yard = Yards.ofAlike(3);
        yard.measure(99, 99, 0, 1);
        DUE.is("a refused measure is none", yard.drum(0, 0, 0, 1, 1), NONE);
        yard.measure(100, 100, 0, 1);
        yard.measure(200, 300, 4, 5);
        DUE.is("measured twice", yard.drum(0, 0, 0, 1, 1), 3);
        DUE.is("by the last: told(3, 0)", Sight.told(yard, 3, 0), 200);
        DUE.is("one measure makes one drum", yard.drum(0, 0, 0, 1, 1), NONE);
    }

    private static void drumOutOfBounds() {
        DUE.of("out of bounds (HOLES 0 .. 65,535), there are 10.");
        for (Supplier<DrumYard> made : ALL) {
            REFUSED.is("flutes -1", made, yard -> yard.drum(-1, 1, 1, 1, 1), NONE);
            REFUSED.is("flutes 41", made, yard -> yard.drum(41, 1, 1, 1, 1), NONE);
            REFUSED.is("holes below -1", made, yard -> yard.drum(1, -1, 1, 1, 1), NONE);
            REFUSED.is("holes below 65,536", made, yard -> yard.drum(1, 65536, 1, 1, 1), NONE);
            REFUSED.is("holes above -1", made, yard -> yard.drum(1, 1, -1, 1, 1), NONE);
            REFUSED.is("holes above 65,536", made, yard -> yard.drum(1, 1, 65536, 1, 1), NONE);
            REFUSED.is("weight 0", made, yard -> yard.drum(1, 1, 1, 0, 1), NONE);
            REFUSED.is("weight 10,001", made, yard -> yard.drum(1, 1, 1, 10001, 1), NONE);
            REFUSED.is("strength -1", made, yard -> yard.drum(1, 1, 1, 1, -1), NONE);
            REFUSED.is("strength 100,001", made, yard -> yard.drum(1, 1, 1, 1, 100001), NONE);
        }
        DrumYard yard = Yards.busy();
        yard.drum(41, 0, 0, 1, 1);
        DUE.is("the measure waits still", yard.drum(40, 65535, 65535, 10000, 100000), 5);
        DUE.is("told(5, 3)", Sight.told(yard, 5, 3), 77);
    }

    private static void drumOfTen() {
        DUE.of("there are 10.");
        REFUSED.is("an eleventh", FULL, yard -> yard.drum(0, 0, 0, 1, 1), NONE);
        DrumYard yard = Yards.ofAlike(9);
        DUE.is("the tenth", Yards.plain(yard, 500, 500, 1, 1, 1), 9);
        DUE.is("an eleventh, measured", Yards.plain(yard, 500, 500, 1, 1, 1), NONE);
        DUE.is("count(0)", yard.count(0), 10);
    }

    private static void set() {
        DUE.of("TOL, STONE and AHEAD. False: out of bounds.");
        for (Supplier<DrumYard> made : ALL) {
            REFUSED.no("set(-1, 77, 3)", made, yard -> yard.set(-1, 77, 3));
            REFUSED.no("set(51, 77, 3)", made, yard -> yard.set(51, 77, 3));
            REFUSED.no("set(0, 0, 3)", made, yard -> yard.set(0, 0, 3));
            REFUSED.no("set(0, 10001, 3)", made, yard -> yard.set(0, 10001, 3));
            REFUSED.no("set(0, 77, 0)", made, yard -> yard.set(0, 77, 0));
            REFUSED.no("set(0, 77, 6)", made, yard -> yard.set(0, 77, 6));
        }
        DrumYard yard = Yards.busy();
        DUE.yes("the same again is no refusal", yard.set(6, 40, 2));
        DUE.yes("in the full yard", Yards.full().set(0, 1, 1));
    }

    private static void columnOutOfBounds() {
        DUE.of("A COLUMN: its number. NONE: out of bounds");
        for (Supplier<DrumYard> made : ALL) {
            REFUSED.is("0 places", made, yard -> yard.column(0, 0, 0), NONE);
            REFUSED.is("-1 places", made, yard -> yard.column(-1, 0, 0), NONE);
            REFUSED.is("6 places", made, yard -> yard.column(6, 0, 0), NONE);
            REFUSED.is("foot 99", made, yard -> yard.column(1, 99, 0), NONE);
            REFUSED.is("foot 3,001", made, yard -> yard.column(1, 3001, 0), NONE);
            REFUSED.is("foot -1", made, yard -> yard.column(1, -1, 0), NONE);
            REFUSED.is("head 99", made, yard -> yard.column(1, 0, 99), NONE);
            REFUSED.is("head 3,001", made, yard -> yard.column(1, 0, 3001), NONE);
            REFUSED.is("head -1", made, yard -> yard.column(1, 0, -1), NONE);
        }
    }

    private static void columnOfFour() {
        DUE.of("there are four");
        Supplier<DrumYard> four = () -> Yards.ofColumns(1, 1, 1, 1);
        REFUSED.is("a fifth, though four places are left", four, yard -> yard.column(1, 0, 0), NONE);
        REFUSED.is("a fifth of four places", four, yard -> yard.column(4, 0, 0), NONE);
        REFUSED.is("a fifth in the full yard", FULL, yard -> yard.column(1, 0, 0), NONE);
        DUE.is("a fourth", Yards.ofColumns(1, 1, 1).column(5, 0, 0), 3);
    }

    private static void columnOfEightPlaces() {
        DUE.of("more than 8 PLACES in all.");
        Supplier<DrumYard> seven = () -> Yards.ofColumns(5, 2);
        REFUSED.is("a ninth place", seven, yard -> yard.column(2, 0, 0), NONE);
        REFUSED.is("five more", seven, yard -> yard.column(5, 0, 0), NONE);
        DUE.is("the eighth place", Yards.ofColumns(5, 2).column(1, 0, 0), 2);
    }

    private static void turn() {
        DUE.of("NONE: it does not, no such ones, alike.");
        REFUSED.is("it does not, by widths", BUSY, yard -> yard.turn(0, 1), NONE);
        REFUSED.is("it does not, by holes", BUSY, yard -> yard.turn(3, 4), NONE);
        DUE.is("it does: turn(1, 0)", Yards.busy().turn(1, 0), 15);
        for (Supplier<DrumYard> made : ALL) {
            for (int other : outsideDrums(made)) {
                REFUSED.is("no such upper " + other, made, yard -> yard.turn(other, 0), NONE);
                REFUSED.is("no such lower " + other, made, yard -> yard.turn(0, other), NONE);
                REFUSED.is("no such ones " + other, made, yard -> yard.turn(other, other), NONE);
            }
        }
        for (int drum = 0; drum < 10; drum++) {
            int alike = drum;
            REFUSED.is("alike " + drum, FULL, yard -> yard.turn(alike, alike), NONE);
        }
    }

    private static void fits() {
        DUE.of("as bits: 1 its foot, 2 its head. NONE: no such ones.");
        for (Supplier<DrumYard> made : ALL) {
            for (int other : outsideDrums(made)) {
                REFUSED.is("no such drum " + other, made, yard -> yard.fits(other, 0), NONE);
            }
            for (int other : outsideColumns(made)) {
                REFUSED.is("no such column " + other, made, yard -> yard.fits(0, other), NONE);
            }
        }
        DUE.is("such ones that do not fit", Yards.busy().fits(1, 0), 0);
        DUE.is("the last ones", Yards.full().fits(9, 3), 3);
    }

    private static void hand() {
        DUE.of("or nothing is told (NONE). False: no such ones.");
        for (Supplier<DrumYard> made : ALL) {
            for (int place : outsidePlaces(made)) {
                REFUSED.no("hand(" + place + ", 0)", made, yard -> yard.hand(place, 0));
                REFUSED.no("hand(" + place + ", NEW)", made, yard -> yard.hand(place, NEW));
                REFUSED.no("hand(" + place + ", NONE)", made, yard -> yard.hand(place, NONE));
            }
        }
        for (int drum : new int[] {-2, 5, 9, 11, 32, LOW, HIGH}) {
            REFUSED.no("hand(0, " + drum + ") of five", BUSY, yard -> yard.hand(0, drum));
            REFUSED.no("hand(2, " + drum + ") of five", BUSY, yard -> yard.hand(2, drum));
        }
        for (int drum : new int[] {-2, 11, 32, LOW, HIGH}) {
            REFUSED.no("hand(0, " + drum + ") of ten", FULL, yard -> yard.hand(0, drum));
        }
        DUE.yes("the last ones", Yards.full().hand(7, 9));
        DUE.yes("the last drum of five", Yards.busy().hand(0, 4));
    }

    private static void not() {
        DUE.of("or that is taken back. False: no such ones, it is so.");
        for (boolean is : new boolean[] {true, false}) {
            for (Supplier<DrumYard> made : ALL) {
                for (int place : outsidePlaces(made)) {
                    REFUSED.no("not(" + place + ", 0, " + is + ")", made, yard -> yard.not(place, 0, is));
                }
                for (int drum : outsideDrums(made)) {
                    REFUSED.no("not(0, " + drum + ", " + is + ")", made, yard -> yard.not(0, drum, is));
                }
            }
        }
        REFUSED.no("it is so: told", BUSY, yard -> yard.not(0, 4, true));
        REFUSED.no("it is so: never told", BUSY, yard -> yard.not(0, 3, false));
        REFUSED.no("it is so: never told of that place", BUSY, yard -> yard.not(1, 4, false));
        DrumYard yard = Yards.full();
        DUE.yes("the last ones", yard.not(7, 9, true));
        DUE.no("it is so", yard.not(7, 9, true));
        DUE.yes("taken back", yard.not(7, 9, false));
        DUE.no("it is so: taken back", yard.not(7, 9, false));
        DUE.yes("told anew", yard.not(7, 9, true));
    }

    private static void leastAndWays() {
        DUE.of("How many stones are new in BEST. NONE: there is no WAY.");
        REFUSED.is("no way: least()", WITHOUT_WAY, DrumYard::least, NONE);
        DUE.is("a way with nothing new is a way", Yards.ofAlike(1).least(), 0);
        DUE.of("How many WAYS are BEST (0: there is none).");
        REFUSED.is("no way: ways()", WITHOUT_WAY, DrumYard::ways, 0);
        DrumYard yard = Yards.withoutWay();
        yard.hand(1, NONE);
        DUE.is("a way again", yard.ways(), Yards.busy().ways());
    }

    private static void first() {
        DUE.of("(NEW: new stone). NONE: no such PLACE, no WAY.");
        for (Supplier<DrumYard> made : ALL) {
            for (int place : outsidePlaces(made)) {
                REFUSED.is("first(" + place + ")", made, yard -> yard.first(place), NONE);
            }
        }
        for (int i = 0; i < 5; i++) {
            int place = i;
            REFUSED.is("no way: first(" + i + ")", WITHOUT_WAY, yard -> yard.first(place), NONE);
        }
        DUE.is("new stone at the last place", Yards.full().first(7), NEW);
    }

    private static void sure() {
        DUE.of("The PLACE at which a DRUM is SURE. NONE: none, no such DRUM.");
        for (Supplier<DrumYard> made : ALL) {
            for (int drum : outsideDrums(made)) {
                REFUSED.is("sure(" + drum + ")", made, yard -> yard.sure(drum), NONE);
            }
        }
        REFUSED.is("none: open, not sure", FULL, yard -> yard.sure(8), NONE);
        REFUSED.is("none: no way", WITHOUT_WAY, yard -> yard.sure(3), NONE);
        DUE.is("new stone is SURE at a place, but no drum: sure(NEW)", Yards.full().sure(NEW), NONE);
        DUE.is("sure at the first place", Yards.full().sure(9), 0);
    }

    private static void open() {
        DUE.of("OPEN PLACES of a DRUM, as bits. 0: none, no such one.");
        for (Supplier<DrumYard> made : ALL) {
            for (int drum : outsideDrums(made)) {
                REFUSED.is("open(" + drum + ")", made, yard -> yard.open(drum), 0);
            }
        }
        REFUSED.is("none: no way", WITHOUT_WAY, yard -> yard.open(3), 0);
        DrumYard yard = Yards.ofAlike(1);
        yard.column(1, 0, 0);
        DUE.is("the one place", yard.open(0), 1);
        yard.not(0, 0, true);
        DUE.is("none: barred from it", yard.open(0), 0);
    }

    private static void bears() {
        DUE.of("NONE: it is at no PLACE in FIRST, no such one, no WAY.");
        for (Supplier<DrumYard> made : ALL) {
            for (int drum : outsideDrums(made)) {
                REFUSED.is("bears(" + drum + ")", made, yard -> yard.bears(drum), NONE);
            }
        }
        REFUSED.is("at no place in FIRST, but in others", FULL, yard -> yard.bears(8), NONE);
        DUE.is("it is open all the same: open(8)", Yards.full().open(8), 126);
        for (int i = 0; i < 5; i++) {
            int drum = i;
            REFUSED.is("no way: bears(" + i + ")", WITHOUT_WAY, yard -> yard.bears(drum), NONE);
        }
        DUE.is("at a head it bears nothing: bears(0)", Yards.full().bears(0), 0);
    }

    private static void cracked() {
        DUE.of("CRACKED DRUMS, as bits. 0: none, no WAY.");
        DUE.is("the busy yard has two, under new stone and under a drum", Yards.busy().cracked(), 5);
        REFUSED.is("no way", WITHOUT_WAY, DrumYard::cracked, 0);
        REFUSED.is("none in the full yard", FULL, DrumYard::cracked, 0);
        REFUSED.is("none in the empty yard", EMPTY, DrumYard::cracked, 0);
    }

    private static void setting() {
        DUE.of("The PLACE of stone i in SETTING. NONE without, no WAY.");
        for (Supplier<DrumYard> made : ALL) {
            for (int i : outsidePlaces(made)) {
                REFUSED.is("setting(" + i + ")", made, yard -> yard.setting(i), NONE);
            }
        }
        for (int stone = 0; stone < 5; stone++) {
            int i = stone;
            REFUSED.is("no way: setting(" + i + ")", WITHOUT_WAY, yard -> yard.setting(i), NONE);
        }
        DUE.is("the last stone", Yards.full().setting(7), 7);
    }

    private static void tall() {
        DUE.of("TALL. NONE: no such COLUMN, no WAY.");
        for (Supplier<DrumYard> made : ALL) {
            for (int column : outsideColumns(made)) {
                REFUSED.is("tall(" + column + ")", made, yard -> yard.tall(column), NONE);
            }
        }
        REFUSED.is("no way: tall(0)", WITHOUT_WAY, yard -> yard.tall(0), NONE);
        REFUSED.is("no way: tall(1)", WITHOUT_WAY, yard -> yard.tall(1), NONE);
        DUE.is("the last column", Yards.full().tall(3), 200);
    }

    private static void told() {
        DUE.of("NoSuchElementException: no such one, what.");
        for (Supplier<DrumYard> made : ALL) {
            for (int drum : outsideDrums(made)) {
                String call = "told(" + drum + ", ..)";
                REFUSED.is(call, made, yard -> Sight.told(yard, drum, 0), Sight.THREW);
                REFUSED.is(call, made, yard -> Sight.told(yard, drum, 8), Sight.THREW);
                REFUSED.is(call, made, yard -> Sight.told(yard, drum, 9), Sight.THREW);
            }
        }
        for (int what : outside(9)) {
            REFUSED.is("told(0, " + what + ")", BUSY, yard -> Sight.told(yard, 0, what), Sight.THREW);
            REFUSED.is("told(9, " + what + ")", FULL, yard -> Sight.told(yard, 9, what), Sight.THREW);
        }
        int[] first = {1000, 900, 0, 400, 20, 3, 5, 100, 30};
        int[] last = {1006, 700, 0, 51, 0, 0, 65535, 20, 100000};
        for (int what = 0; what <= 8; what++) {
            DUE.is("told(0, " + what + ")", Sight.told(Yards.busy(), 0, what), first[what]);
            DUE.is("told(4, " + what + ")", Sight.told(Yards.busy(), 4, what), last[what]);
        }
    }

    private static void place() {
        DUE.of("2 a hand's word (NONE). NONE for others.");
        for (Supplier<DrumYard> made : ALL) {
            for (int place : outsidePlaces(made)) {
                for (int i = 0; i <= 2; i++) {
                    int what = i;
                    String call = "place(" + place + ", " + what + ")";
                    REFUSED.is(call, made, yard -> yard.place(place, what), NONE);
                }
            }
        }
        for (int what : outside(3)) {
            REFUSED.is("place(4, " + what + ")", BUSY, yard -> yard.place(4, what), NONE);
            REFUSED.is("place(7, " + what + ")", FULL, yard -> yard.place(7, what), NONE);
        }
        int[][] want = {{0, 0, NONE}, {0, 1, NONE}, {0, 2, NEW}, {1, 0, NONE}, {1, 1, 3}};
        for (int place = 0; place < 5; place++) {
            for (int what = 0; what <= 2; what++) {
                String call = "place(" + place + ", " + what + ")";
                DUE.is(call, Yards.busy().place(place, what), want[place][what]);
            }
        }
    }

    private static void count() {
        DUE.of("4 PLACES of which hand() told something. NONE for others.");
        for (Supplier<DrumYard> made : ALL) {
            for (int what : outside(5)) {
                REFUSED.is("count(" + what + ")", made, yard -> yard.count(what), NONE);
            }
        }
        DrumYard yard = Yards.full();
        for (int place = 0; place < 8; place++) {
            yard.hand(place, NEW);
        }
        DUE.is("of all places: count(4)", yard.count(4), 8);
        for (int place = 0; place < 8; place++) {
            yard.hand(place, NONE);
        }
        DUE.is("of none: count(4)", yard.count(4), 0);
        DUE.is("a NOT is no word of hand(): count(4)", yard.not(0, 0, true) ? yard.count(4) : NONE, 0);
    }
}
