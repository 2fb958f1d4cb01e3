import java.util.function.Supplier;

/**
 * The bounds that 'Terms' and the loads' text name: of each, the last value within it and the first
 * one outside it, at both ends; and how many drums, columns and places there can be.
 */
public final class BoundsTest {
    private static final Due DUE = new Due("BoundsTest");
    private static final Refusals REFUSED = new Refusals(DUE);
    private static final int NONE = DrumYard.NONE;
    private static final int NEW = DrumYard.NEW;
    private static final int LOW = Yards.LOW;
    private static final int HIGH = Yards.HIGH;

    public static void main(String[] args) {
        widths();
        doubt();
        height();
        flutes();
        holes();
        weight();
        strength();
        tol();
        stone();
        ahead();
        tenDrums();
        fourColumns();
        placesOfColumn();
        eightPlaces();
        footAndHead();
        DUE.end();
    }

    private static void widths() {
        DUE.of("widths below and above (100 .. 3,000 each)");
        measuredWithin(0, 100, 3000);
        measuredWithin(1, 100, 3000);
    }

    private static void doubt() {
        DUE.of("DOUBT (0 .. 50, of both)");
        measuredWithin(2, 0, 50);
    }

    private static void height() {
        DUE.of("height (1 .. 2,000)");
        measuredWithin(3, 1, 2000);
    }

    private static void flutes() {
        DUE.of("FLUTES (0: none told; 1 .. 40)");
        madeWithin(4, 0, 40);
        taken(4, 1);
    }

    private static void holes() {
        DUE.of("HOLES below and above (16 directions each, as bits; 0: none told)");
        madeWithin(5, 0, 65535);
        madeWithin(6, 0, 65535);
        for (int direction = 0; direction < 16; direction++) {
            taken(5, 1 << direction);
            taken(6, 1 << direction);
        }
    }

    private static void weight() {
        DUE.of("WEIGHT (1 .. 10,000)");
        madeWithin(7, 1, 10000);
    }

    private static void strength() {
        DUE.of("STRENGTH (0 .. 100,000)");
        madeWithin(8, 0, 100000);
    }

    private static void measuredWithin(int what, int low, int high) {
        taken(what, low);
        taken(what, high);
        for (int value : new int[] {low - 1, high + 1, LOW, HIGH}) {
            String call = "measure() with " + value + " as told " + what;
            REFUSED.no(call, Yards::busy, yard -> Yards.measured(yard, what, value));
        }
    }

    private static void madeWithin(int what, int low, int high) {
        taken(what, low);
        taken(what, high);
        for (int value : new int[] {low - 1, high + 1, LOW, HIGH}) {
            String call = "drum() with " + value + " as told " + what;
            REFUSED.is(call, Yards::busy, yard -> Yards.made(yard, what, value), NONE);
        }
    }

    private static void taken(int what, int value) {
        DrumYard yard = new DrumYard();
        DUE.yes("measure() for " + value + " as told " + what, Yards.measured(yard, what, value));
        DUE.is("drum() with " + value + " as told " + what, Yards.made(yard, what, value), 0);
        DUE.is("told(0, " + what + ")", Sight.told(yard, 0, what), value);
    }

    private static void tol() {
        DUE.of("TOL (0 .. 50; 5 at first)");
        tolIs("at first", new DrumYard(), 5);
        for (int tol : new int[] {0, 50}) {
            DrumYard yard = new DrumYard();
            DUE.yes("set(" + tol + ", 500, 1)", yard.set(tol, 500, 1));
            tolIs("set", yard, tol);
        }
        for (int tol : new int[] {-1, 51, LOW, HIGH}) {
            REFUSED.no("set(" + tol + ", 77, 3)", Yards::busy, yard -> yard.set(tol, 77, 3));
        }
    }

    private static void tolIs(String when, DrumYard yard, int tol) {
        Yards.plain(yard, 500, 500, 10, 1, 1);
        Yards.plain(yard, 500 + tol, 900, 10, 1, 1);
        Yards.plain(yard, 501 + tol, 900, 10, 1, 1);
        DUE.is(when + ": turn() of one " + tol + " wider", yard.turn(1, 0), 0);
        DUE.is(when + ": turn() of one wider by one more", yard.turn(2, 0), NONE);
    }

    private static void stone() {
        DUE.of("STONE each (1 .. 10,000; 500 at first)");
        stoneIs("at first", new DrumYard(), 500);
        for (int stone : new int[] {1, 10000}) {
            DrumYard yard = new DrumYard();
            DUE.yes("set(5, " + stone + ", 1)", yard.set(5, stone, 1));
            stoneIs("set", yard, stone);
        }
        for (int stone : new int[] {0, -1, 10001, LOW, HIGH}) {
            REFUSED.no("set(0, " + stone + ", 3)", Yards::busy, yard -> yard.set(0, stone, 3));
        }
    }

    private static void stoneIs(String when, DrumYard yard, int stone) {
        Yards.plain(yard, 500, 500, 10, 1, 1);
        yard.column(2, 0, 0);
        yard.hand(0, 0);
        DUE.is(when + ": bears() of one new stone", yard.bears(0), stone);
    }

    private static void ahead() {
        DUE.of("AHEAD (1 .. 5; 1 at first)");
        aheadIs("at first", new DrumYard(), 1);
        for (int ahead = 1; ahead <= 5; ahead++) {
            DrumYard yard = new DrumYard();
            DUE.yes("set(5, 500, " + ahead + ")", yard.set(5, 500, ahead));
            aheadIs("set", yard, ahead);
        }
        for (int ahead : new int[] {0, -1, 6, LOW, HIGH}) {
            REFUSED.no("set(0, 77, " + ahead + ")", Yards::busy, yard -> yard.set(0, 77, ahead));
        }
    }

    private static void aheadIs(String when, DrumYard yard, int ahead) {
        yard.column(5, 0, 0);
        yard.column(3, 0, 0);
        for (int i = 0; i < ahead; i++) {
            DUE.is(when + ": setting(" + i + "), ahead " + ahead, yard.setting(i), i);
        }
        DUE.is(when + ": setting(" + ahead + "), the other column's", yard.setting(ahead), 5);
    }

    private static void tenDrums() {
        DUE.of("DRUMS (10 at most)");
        DrumYard yard = new DrumYard();
        for (int drum = 0; drum < 10; drum++) {
            DUE.is("drum " + drum, Yards.plain(yard, 100 + drum, 100, 1, 1, 1), drum);
        }
        for (int drum = 0; drum < 10; drum++) {
            DUE.is("told(" + drum + ", 0)", Sight.told(yard, drum, 0), 100 + drum);
        }
        DUE.is("count(0)", yard.count(0), 10);
        REFUSED.is("an eleventh", Yards::full, full -> full.drum(0, 0, 0, 1, 1), NONE);
    }

    private static void fourColumns() {
        DUE.of("COLUMNS (4 at most)");
        DrumYard yard = new DrumYard();
        for (int column = 0; column < 4; column++) {
            DUE.is("column " + column, yard.column(1, 0, 0), column);
        }
        DUE.is("count(1)", yard.count(1), 4);
        REFUSED.is("a fifth", () -> Yards.ofColumns(1, 1, 1, 1), four -> four.column(1, 0, 0), NONE);
    }

    private static void placesOfColumn() {
        DUE.of("each with 1 to 5 PLACES, from the foot up");
        for (int places = 1; places <= 5; places++) {
            DrumYard yard = new DrumYard();
            DUE.is("column(" + places + ", 0, 0)", yard.column(places, 0, 0), 0);
            DUE.is("count(2)", yard.count(2), places);
            DUE.is("place(0, 1), the foot", yard.place(0, 1), 0);
            DUE.is("the highest", yard.place(places - 1, 1), places - 1);
        }
        for (int places : new int[] {0, -1, 6, LOW, HIGH}) {
            String call = "column(" + places + ", 0, 0)";
            REFUSED.is(call, DrumYard::new, yard -> yard.column(places, 0, 0), NONE);
        }
    }

    private static void eightPlaces() {
        DUE.of("8 PLACES in all at most, numbered from the first COLUMN's foot on");
        numbered(5, 3);
        numbered(3, 5);
        numbered(5, 1, 1, 1);
        numbered(2, 2, 2, 2);
        REFUSED.is("5 and 4", () -> Yards.ofColumns(5), yard -> yard.column(4, 0, 0), NONE);
        REFUSED.is("4, 3 and 2", () -> Yards.ofColumns(4, 3), yard -> yard.column(2, 0, 0), NONE);
        REFUSED.is("5, 3 and 1", () -> Yards.ofColumns(5, 3), yard -> yard.column(1, 0, 0), NONE);
        REFUSED.is("5, 3 and 5", () -> Yards.ofColumns(5, 3), yard -> yard.column(5, 0, 0), NONE);
        DrumYard yard = Yards.ofColumns(5);
        yard.column(4, 0, 0);
        DUE.is("3 after 4 were refused", yard.column(3, 0, 0), 1);
    }

    private static void numbered(int... sizes) {
        DrumYard yard = new DrumYard();
        int place = 0;
        for (int column = 0; column < sizes.length; column++) {
            DUE.is("column(" + sizes[column] + ", 0, 0)", yard.column(sizes[column], 0, 0), column);
            for (int height = 0; height < sizes[column]; height++) {
                DUE.is("place(" + place + ", 0)", yard.place(place, 0), column);
                DUE.is("place(" + place + ", 1)", yard.place(place, 1), height);
                place++;
            }
        }
        DUE.is("count(2)", yard.count(2), 8);
        DUE.is("least(), of new stone alone", yard.least(), 8);
        DUE.is("first(7)", yard.first(7), NEW);
        DUE.is("place(8, 0)", yard.place(8, 0), NONE);
    }

    private static void footAndHead() {
        DUE.of("A COLUMN has FOOT and HEAD widths (0: not told; 100 .. 3,000)");
        for (int width : new int[] {0, 100, 3000}) {
            DUE.is("column(1, " + width + ", 0)", new DrumYard().column(1, width, 0), 0);
            DUE.is("column(1, 0, " + width + ")", new DrumYard().column(1, 0, width), 0);
        }
        for (int width : new int[] {100, 3000}) {
            DUE.is("foot " + width + " is kept", fitsOf(width, width, 0), 3);
            DUE.is("head " + width + " is kept", fitsOf(width, 0, width), 3);
            DUE.is("a drum unlike foot " + width, fitsOf(500, width, 0), 2);
            DUE.is("a drum unlike head " + width, fitsOf(500, 0, width), 1);
        }
        Supplier<DrumYard> busy = Yards::busy;
        for (int width : new int[] {-1, 1, 99, 3001, LOW, HIGH}) {
            REFUSED.is("foot " + width, busy, yard -> yard.column(1, width, 0), NONE);
            REFUSED.is("head " + width, busy, yard -> yard.column(1, 0, width), NONE);
        }
    }

    private static int fitsOf(int width, int foot, int head) {
        DrumYard yard = new DrumYard();
        Yards.plain(yard, width, width, 10, 1, 1);
        yard.column(1, foot, head);
        return yard.fits(0, 0);
    }
}
