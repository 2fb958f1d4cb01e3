/** Promises 5, 7 to 9, 20 and what count() tells of columns, places and hand's words. */
public final class ColumnsTest {
    private static final Due DUE = new Due("ColumnsTest");
    private static final int NONE = DrumYard.NONE;
    private static final int NEW = DrumYard.NEW;

    public static void main(String[] args) {
        promise5Bounds();
        promise5FourColumns();
        promise5EightPlaces();
        promise7Fits();
        promise7NotTold();
        promise7NoSuchOnes();
        promise8Hand();
        promise8NoSuchOnes();
        promise9Not();
        promise9NoSuchOnes();
        promise20Place();
        promise21Counts();
        DUE.end();
    }

    private static void promise5Bounds() {
        DrumYard yard = new DrumYard();
        DUE.is("0 places", yard.column(0, 0, 0), -1);
        DUE.is("-1 places", yard.column(-1, 0, 0), -1);
        DUE.is("6 places", yard.column(6, 0, 0), -1);
        DUE.is("least int places", yard.column(Yards.LOW, 0, 0), -1);
        DUE.is("greatest int places", yard.column(Yards.HIGH, 0, 0), -1);
        int[] wrong = {-1, 1, 99, 3001, Yards.LOW, Yards.HIGH};
        for (int width : wrong) {
            DUE.is("foot " + width, yard.column(1, width, 0), -1);
            DUE.is("head " + width, yard.column(1, 0, width), -1);
        }
        DUE.is("columns after refused ones", yard.count(1), 0);
        DUE.is("places after refused ones", yard.count(2), 0);
        DUE.is("5 places, lowest widths", yard.column(5, 100, 100), 0);
        DUE.is("1 place, highest widths", yard.column(1, 3000, 3000), 1);
        DUE.is("widths not told", yard.column(1, 0, 0), 2);
    }

    private static void promise5FourColumns() {
        DrumYard yard = new DrumYard();
        for (int i = 0; i < 4; i++) {
            DUE.is("column " + i, yard.column(1, 0, 0), i);
        }
        DUE.is("a fifth", yard.column(1, 0, 0), -1);
        DUE.is("columns", yard.count(1), 4);
        DUE.is("places", yard.count(2), 4);
    }

    private static void promise5EightPlaces() {
        DrumYard yard = new DrumYard();
        DUE.is("5 places", yard.column(5, 0, 0), 0);
        DUE.is("9 in all", yard.column(4, 0, 0), -1);
        DUE.is("8 in all", yard.column(3, 0, 0), 1);
        DUE.is("9 in all", yard.column(1, 0, 0), -1);
        DUE.is("places", yard.count(2), 8);
        DUE.is("the last place's column", yard.place(7, 0), 1);
    }

    private static void promise7Fits() {
        DrumYard yard = new DrumYard();
        yard.measure(1000, 900, 3, 10);
        yard.drum(0, 0, 0, 1, 1);
        yard.column(1, 1008, 908);
        yard.column(1, 1009, 908);
        yard.column(1, 992, 909);
        yard.column(1, 991, 891);
        DUE.is("8 over, of doubt 3 and tol 5", yard.fits(0, 0), 3);
        DUE.is("foot 9 over", yard.fits(0, 1), 2);
        DUE.is("foot 8 under, head 9 over", yard.fits(0, 2), 1);
        DUE.is("9 under", yard.fits(0, 3), 0);
        yard.set(6, 500, 1);
        DUE.is("9 under, tol 6", yard.fits(0, 3), 3);
    }

    private static void promise7NotTold() {
        DrumYard yard = Yards.ofAlike(1);
        yard.column(1, 0, 0);
        yard.column(1, 3000, 0);
        yard.column(1, 0, 3000);
        DUE.is("neither told", yard.fits(0, 0), 3);
        DUE.is("foot told", yard.fits(0, 1), 2);
        DUE.is("head told", yard.fits(0, 2), 1);
    }

    private static void promise7NoSuchOnes() {
        DrumYard yard = Yards.ofAlike(1);
        yard.column(1, 0, 0);
        int[] others = {-1, 1, 4, 10, Yards.LOW, Yards.HIGH};
        for (int other : others) {
            DUE.is("no such drum " + other, yard.fits(other, 0), -1);
            DUE.is("no such column " + other, yard.fits(0, other), -1);
        }
    }

    private static void promise8Hand() {
        DrumYard yard = Yards.ofAlike(2);
        yard.column(2, 0, 0);
        DUE.yes("a drum", yard.hand(1, 0));
        DUE.is("first(1)", yard.first(1), 0);
        DUE.is("first(0)", yard.first(0), 1);
        DUE.yes("the same again", yard.hand(1, 0));
        DUE.yes("another in its stead", yard.hand(1, 1));
        DUE.is("first(1)", yard.first(1), 1);
        DUE.yes("new stone", yard.hand(1, NEW));
        DUE.is("first(1)", yard.first(1), NEW);
        DUE.is("least()", yard.least(), 1);
        DUE.yes("nothing", yard.hand(1, NONE));
        DUE.is("least()", yard.least(), 0);
        DUE.yes("nothing again", yard.hand(1, NONE));
        yard.hand(0, 1);
        yard.hand(1, 1);
        DUE.is("one drum at two places: ways()", yard.ways(), 0);
    }

    private static void promise8NoSuchOnes() {
        DrumYard yard = Yards.ofAlike(1);
        yard.column(1, 0, 0);
        yard.hand(0, 0);
        int[] places = {-1, 1, 8, Yards.LOW, Yards.HIGH};
        for (int place : places) {
            DUE.no("no such place " + place, yard.hand(place, 0));
            DUE.no("no such place, nothing told " + place, yard.hand(place, NONE));
        }
        int[] drums = {-2, 1, 9, 11, Yards.LOW, Yards.HIGH};
        for (int drum : drums) {
            DUE.no("no such drum " + drum, yard.hand(0, drum));
        }
        DUE.is("the word after refused ones", yard.place(0, 2), 0);
        DUE.is("words after refused ones", yard.count(4), 1);
    }

    private static void promise9Not() {
        DrumYard yard = Yards.ofAlike(2);
        yard.column(1, 0, 0);
        yard.column(1, 0, 0);
        DUE.no("taken back though never told", yard.not(0, 0, false));
        DUE.yes("told", yard.not(0, 0, true));
        DUE.no("told again", yard.not(0, 0, true));
        DUE.is("first(0)", yard.first(0), 1);
        DUE.is("open(0)", yard.open(0), 2);
        DUE.yes("the other drum too", yard.not(0, 1, true));
        DUE.is("least()", yard.least(), 1);
        DUE.is("first(0)", yard.first(0), NEW);
        DUE.yes("taken back", yard.not(0, 0, false));
        DUE.no("taken back again", yard.not(0, 0, false));
        DUE.is("first(0)", yard.first(0), 0);
        DUE.is("open(1): it is still told of", yard.open(1), 2);
        DUE.yes("at the other place", yard.not(1, 0, true));
        DUE.is("ways()", yard.ways(), 1);
        yard.hand(0, 1);
        DUE.is("a hand's word against a not: ways()", yard.ways(), 0);
        DUE.is("a not is no word of hand()", yard.count(4), 1);
    }

    private static void promise9NoSuchOnes() {
        DrumYard yard = Yards.ofAlike(1);
        yard.column(1, 0, 0);
        int[] places = {-1, 1, 8, Yards.LOW, Yards.HIGH};
        for (int place : places) {
            DUE.no("no such place " + place, yard.not(place, 0, true));
            DUE.no("no such place " + place, yard.not(place, 0, false));
        }
        int[] drums = {-1, 1, NEW, 32, Yards.LOW, Yards.HIGH};
        for (int drum : drums) {
            DUE.no("no such drum " + drum, yard.not(0, drum, true));
            DUE.no("no such drum " + drum, yard.not(0, drum, false));
        }
        DUE.is("first(0) after refused ones", yard.first(0), 0);
        Yards.plain(yard, 500, 500, 100, 10, 1000);
        DUE.is("ways() with the drum that came", yard.ways(), 2);
        DUE.yes("not of the drum that came", yard.not(0, 1, true));
        DUE.is("ways() without it", yard.ways(), 1);
    }

    private static void promise20Place() {
        DrumYard yard = Yards.ofAlike(1);
        yard.column(2, 0, 0);
        yard.column(1, 0, 0);
        yard.column(3, 0, 0);
        int[] columns = {0, 0, 1, 2, 2, 2};
        int[] heights = {0, 1, 0, 0, 1, 2};
        yard.hand(1, 0);
        yard.hand(4, NEW);
        int[] words = {NONE, 0, NONE, NONE, NEW, NONE};
        for (int place = 0; place < 6; place++) {
            DUE.is("place(" + place + ", 0)", yard.place(place, 0), columns[place]);
            DUE.is("place(" + place + ", 1)", yard.place(place, 1), heights[place]);
            DUE.is("place(" + place + ", 2)", yard.place(place, 2), words[place]);
        }
        yard.hand(1, NONE);
        DUE.is("place(1, 2) with the word taken back", yard.place(1, 2), NONE);
        int[] wrong = {-1, 3, Yards.LOW, Yards.HIGH};
        for (int what : wrong) {
            DUE.is("place(0, " + what + ")", yard.place(0, what), NONE);
        }
        int[] others = {-1, 6, 8, Yards.LOW, Yards.HIGH};
        for (int other : others) {
            for (int what = 0; what <= 2; what++) {
                DUE.is("place(" + other + ", " + what + ")", yard.place(other, what), NONE);
            }
        }
    }

    private static void promise21Counts() {
        DrumYard yard = Yards.ofAlike(2);
        yard.column(2, 0, 0);
        yard.column(3, 0, 0);
        DUE.is("drums", yard.count(0), 2);
        DUE.is("columns", yard.count(1), 2);
        DUE.is("places", yard.count(2), 5);
        DUE.is("no words", yard.count(4), 0);
        yard.hand(0, 0);
        yard.hand(4, NEW);
        DUE.is("two words", yard.count(4), 2);
        yard.hand(0, 1);
        DUE.is("two words still", yard.count(4), 2);
        yard.hand(0, NONE);
        DUE.is("one word", yard.count(4), 1);
    }
}
