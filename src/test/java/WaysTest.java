/** Promises 10 to 14: the best ways, the first of them, what is sure and what is open. */
public final class WaysTest {
    private static final Due DUE = new Due("WaysTest");
    private static final int NONE = DrumYard.NONE;
    private static final int NEW = DrumYard.NEW;

    public static void main(String[] args) {
        leastAndWaysOfAlike();
        leastWithTooFewDrums();
        mostWays();
        mostWaysWithNewStone();
        footAndHead();
        newStoneLiesOnAllAndAllOnIt();
        columnsDoNotLieOnEachOther();
        firstHasLowerDrumsFirst();
        sureAndOpen();
        newStoneSureIsNoDrumSure();
        noWay();
        noSuchOnes();
        eachWordIsSeenAtOnce();
        DUE.end();
    }

    private static void leastAndWaysOfAlike() {
        DrumYard yard = Yards.ofAlike(4);
        yard.column(2, 0, 0);
        DUE.is("4 drums, 2 places: least()", yard.least(), 0);
        DUE.is("4 drums, 2 places: ways()", yard.ways(), 12);
        yard.column(1, 0, 0);
        DUE.is("4 drums, 3 places: ways()", yard.ways(), 24);
    }

    private static void leastWithTooFewDrums() {
        DrumYard yard = new DrumYard();
        yard.column(3, 0, 0);
        DUE.is("no drums: least()", yard.least(), 3);
        DUE.is("no drums: ways()", yard.ways(), 1);
        DUE.is("no drums: first(2)", yard.first(2), NEW);
        Yards.plain(yard, 500, 500, 10, 1, 1);
        DUE.is("one drum: least()", yard.least(), 2);
        DUE.is("one drum: ways()", yard.ways(), 3);
        DUE.is("one drum: first(0)", yard.first(0), 0);
        DUE.is("one drum: open(0)", yard.open(0), 7);
        DUE.is("one drum: sure(0)", yard.sure(0), NONE);
    }

    private static void mostWays() {
        DrumYard yard = Yards.ofAlike(10);
        yard.column(5, 0, 0);
        yard.column(3, 0, 0);
        DUE.is("10 alike, 8 places: least()", yard.least(), 0);
        DUE.is("10 alike, 8 places: ways()", yard.ways(), 1814400);
        for (int place = 0; place < 8; place++) {
            DUE.is("10 alike: first(" + place + ")", yard.first(place), place);
        }
        for (int drum = 0; drum < 10; drum++) {
            DUE.is("10 alike: open(" + drum + ")", yard.open(drum), 255);
            DUE.is("10 alike: sure(" + drum + ")", yard.sure(drum), NONE);
        }
    }

    private static void mostWaysWithNewStone() {
        DrumYard yard = Yards.ofAlike(7);
        yard.column(4, 0, 0);
        yard.column(4, 0, 0);
        DUE.is("7 alike, 8 places: least()", yard.least(), 1);
        DUE.is("7 alike, 8 places: ways()", yard.ways(), 40320);
        DUE.is("7 alike: first(7)", yard.first(7), NEW);
        yard.hand(0, NEW);
        DUE.is("7 alike, new stone told: ways()", yard.ways(), 5040);
        yard.hand(5, NEW);
        DUE.is("7 alike, new stone told twice: least()", yard.least(), 2);
        DUE.is("7 alike, new stone told twice: ways()", yard.ways(), 5040);
    }

    private static void footAndHead() {
        DrumYard yard = new DrumYard();
        Yards.plain(yard, 500, 400, 10, 1, 1);
        Yards.plain(yard, 500, 300, 10, 1, 1);
        yard.column(1, 500, 300);
        DUE.is("the one place needs foot and head: first(0)", yard.first(0), 1);
        DUE.is("and so ways()", yard.ways(), 1);
        yard.column(1, 600, 0);
        DUE.is("no drum fits the foot: first(1)", yard.first(1), NEW);
        yard.column(2, 500, 600);
        DUE.is("place 2 is not the head: first(2)", yard.first(2), 0);
        DUE.is("no drum fits the head: first(3)", yard.first(3), NEW);
    }

    private static void newStoneLiesOnAllAndAllOnIt() {
        DrumYard yard = new DrumYard();
        Yards.plain(yard, 500, 400, 10, 1, 1);
        Yards.plain(yard, 300, 200, 10, 1, 1);
        yard.column(3, 500, 200);
        DUE.is("new stone between: least()", yard.least(), 1);
        DUE.is("new stone between: ways()", yard.ways(), 1);
        DUE.is("first(0)", yard.first(0), 0);
        DUE.is("first(1)", yard.first(1), NEW);
        DUE.is("first(2)", yard.first(2), 1);
    }

    private static void columnsDoNotLieOnEachOther() {
        DrumYard yard = new DrumYard();
        Yards.plain(yard, 500, 400, 10, 1, 1);
        Yards.plain(yard, 500, 400, 10, 1, 1);
        yard.column(1, 0, 0);
        yard.column(1, 0, 0);
        DUE.is("drums side by side: least()", yard.least(), 0);
        DUE.is("drums side by side: ways()", yard.ways(), 2);
    }

    private static void firstHasLowerDrumsFirst() {
        DrumYard yard = new DrumYard();
        Yards.plain(yard, 800, 700, 10, 1, 1);
        Yards.plain(yard, 900, 800, 10, 1, 1);
        Yards.plain(yard, 700, 600, 10, 1, 1);
        yard.column(2, 0, 0);
        DUE.is("0 at the foot, 2 on it: first(0)", yard.first(0), 0);
        DUE.is("first(1)", yard.first(1), 2);
        DUE.is("ways()", yard.ways(), 2);
        yard.column(1, 0, 0);
        DUE.is("the third in a column of its own: first(2)", yard.first(2), 1);
        yard.column(1, 0, 0);
        DUE.is("new stone behind all drums: first(3)", yard.first(3), NEW);
        DUE.is("and the others stay: first(0)", yard.first(0), 0);
    }

    private static void sureAndOpen() {
        DrumYard yard = Yards.ofThree();
        yard.column(3, 1000, 700);
        for (int drum = 0; drum < 3; drum++) {
            DUE.is("one way: sure(" + drum + ")", yard.sure(drum), drum);
            DUE.is("one way: open(" + drum + ")", yard.open(drum), 1 << drum);
        }
        Yards.plain(yard, 900, 800, 10, 1, 1);
        DUE.is("another for the middle: ways()", yard.ways(), 2);
        DUE.is("sure(0)", yard.sure(0), 0);
        DUE.is("sure(1)", yard.sure(1), NONE);
        DUE.is("sure(2)", yard.sure(2), 2);
        DUE.is("sure(3)", yard.sure(3), NONE);
        DUE.is("open(1)", yard.open(1), 2);
        DUE.is("open(3)", yard.open(3), 2);
        yard.not(1, 1, true);
        DUE.is("the one barred: open(1)", yard.open(1), 0);
        DUE.is("the one barred: sure(3)", yard.sure(3), 1);
    }

    private static void newStoneSureIsNoDrumSure() {
        DrumYard yard = Yards.ofAlike(1);
        yard.column(1, 0, 0);
        yard.column(1, 0, 0);
        yard.hand(0, NEW);
        DUE.is("sure(0)", yard.sure(0), 1);
        yard.not(1, 0, true);
        DUE.is("at no place: sure(0)", yard.sure(0), NONE);
        DUE.is("at no place: open(0)", yard.open(0), 0);
        DUE.is("at no place: least()", yard.least(), 2);
    }

    private static void noWay() {
        DrumYard yard = Yards.ofThree();
        yard.column(2, 0, 0);
        yard.hand(0, 1);
        yard.hand(1, 0);
        DUE.is("0 does not lie on 1: least()", yard.least(), NONE);
        DUE.is("ways()", yard.ways(), 0);
        for (int i = 0; i < 3; i++) {
            DUE.is("first(" + i + ")", yard.first(i), NONE);
            DUE.is("sure(" + i + ")", yard.sure(i), NONE);
            DUE.is("open(" + i + ")", yard.open(i), 0);
        }
        yard.hand(0, NONE);
        DUE.is("taken back: least()", yard.least(), 1);
        DUE.is("taken back: first(0)", yard.first(0), NEW);
    }

    private static void noSuchOnes() {
        DrumYard yard = Yards.ofAlike(3);
        yard.column(2, 0, 0);
        int[] others = {-1, 3, 8, 9, 10, 32, Yards.LOW, Yards.HIGH};
        for (int other : others) {
            DUE.is("first(" + other + ")", yard.first(other), NONE);
            DUE.is("sure(" + other + ")", yard.sure(other), NONE);
            DUE.is("open(" + other + ")", yard.open(other), 0);
        }
        DUE.is("first(2)", yard.first(2), NONE);
    }

    private static void eachWordIsSeenAtOnce() {
        DrumYard yard = new DrumYard();
        yard.column(1, 500, 0);
        DUE.is("no drum", yard.least(), 1);
        Yards.plain(yard, 510, 500, 10, 1, 1);
        DUE.is("a drum too wide", yard.least(), 1);
        yard.set(10, 500, 1);
        DUE.is("a wider tol", yard.least(), 0);
        yard.column(1, 0, 0);
        DUE.is("a column more", yard.least(), 1);
        yard.measure(500, 500, 0, 10);
        DUE.is("a measure alone", yard.least(), 1);
        yard.drum(0, 0, 0, 1, 1);
        DUE.is("a drum more", yard.least(), 0);
        yard.not(0, 0, true);
        DUE.is("a not", yard.first(0), 1);
        yard.not(0, 0, false);
        DUE.is("a not taken back", yard.first(0), 0);
        yard.hand(0, 1);
        DUE.is("a hand's word", yard.first(0), 1);
    }
}
