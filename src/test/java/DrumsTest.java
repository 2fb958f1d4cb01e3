import java.util.NoSuchElementException;

/** Promises 1 to 4, 6, 19 and what count() tells of drums. */
public final class DrumsTest {
    private static final Due DUE = new Due("DrumsTest");

    public static void main(String[] args) {
        promise1NewObject();
        promise2MeasureBounds();
        promise2LastMeasureCounts();
        promise3DrumBounds();
        promise3DrumNeedsMeasure();
        promise3TenDrums();
        promise4SetBounds();
        promise4FirstSettings();
        promise4RefusedSetChangesNothing();
        promise6Widths();
        promise6Flutes();
        promise6Holes();
        promise6NoSuchOnes();
        promise19Told();
        promise19NoSuchElement();
        promise21Drums();
        promise21Pairs();
        DUE.end();
    }

    private static void promise1NewObject() {
        DrumYard yard = new DrumYard();
        for (int what = 0; what <= 4; what++) {
            DUE.is("new: count(" + what + ")", yard.count(what), 0);
        }
        DUE.is("new: least()", yard.least(), 0);
        DUE.is("new: ways()", yard.ways(), 1);
        DUE.is("new: cracked()", yard.cracked(), 0);
        DUE.is("new: first(0)", yard.first(0), -1);
        DUE.is("new: sure(0)", yard.sure(0), -1);
        DUE.is("new: open(0)", yard.open(0), 0);
        DUE.is("new: bears(0)", yard.bears(0), -1);
        DUE.is("new: setting(0)", yard.setting(0), -1);
        DUE.is("new: tall(0)", yard.tall(0), -1);
        DUE.is("new: place(0, 0)", yard.place(0, 0), -1);
        DUE.is("new: fits(0, 0)", yard.fits(0, 0), -1);
        DUE.is("new: turn(0, 1)", yard.turn(0, 1), -1);
        DUE.no("new: hand(0, NEW)", yard.hand(0, DrumYard.NEW));
        DUE.no("new: not(0, 0, true)", yard.not(0, 0, true));
        DUE.is("new: NONE", DrumYard.NONE, -1);
        DUE.is("new: NEW", DrumYard.NEW, 10);
    }

    private static void promise2MeasureBounds() {
        DrumYard yard = new DrumYard();
        DUE.yes("lowest measures", yard.measure(100, 100, 0, 1));
        DUE.yes("highest measures", yard.measure(3000, 3000, 50, 2000));
        DUE.no("below 99", yard.measure(99, 100, 0, 1));
        DUE.no("below 3001", yard.measure(3001, 100, 0, 1));
        DUE.no("above 99", yard.measure(100, 99, 0, 1));
        DUE.no("above 3001", yard.measure(100, 3001, 0, 1));
        DUE.no("doubt -1", yard.measure(100, 100, -1, 1));
        DUE.no("doubt 51", yard.measure(100, 100, 51, 1));
        DUE.no("height 0", yard.measure(100, 100, 0, 0));
        DUE.no("height 2001", yard.measure(100, 100, 0, 2001));
        DUE.no("least ints", yard.measure(Yards.LOW, Yards.LOW, Yards.LOW, Yards.LOW));
        DUE.no("greatest ints", yard.measure(Yards.HIGH, Yards.HIGH, Yards.HIGH, Yards.HIGH));
    }

    private static void promise2LastMeasureCounts() {
        DrumYard yard = new DrumYard();
        yard.measure(200, 300, 4, 5);
        yard.measure(201, 301, 6, 7);
        DUE.no("refused measure", yard.measure(202, 302, 8, 0));
        DUE.is("drum by the last one not refused", yard.drum(0, 0, 0, 1, 0), 0);
        DUE.is("its width below", yard.told(0, 0), 201);
        DUE.is("its width above", yard.told(0, 1), 301);
        DUE.is("its doubt", yard.told(0, 2), 6);
        DUE.is("its height", yard.told(0, 3), 7);
        yard.measure(400, 500, 1, 2);
        DUE.is("a measure alone tells nothing of the drum", yard.told(0, 0), 201);
        DUE.is("a measure alone is no drum", yard.count(0), 1);
    }

    private static void promise3DrumBounds() {
        DrumYard yard = new DrumYard();
        yard.measure(100, 100, 0, 1);
        DUE.is("flutes -1", yard.drum(-1, 0, 0, 1, 0), -1);
        DUE.is("flutes 41", yard.drum(41, 0, 0, 1, 0), -1);
        DUE.is("holes below -1", yard.drum(0, -1, 0, 1, 0), -1);
        DUE.is("holes below 65536", yard.drum(0, 65536, 0, 1, 0), -1);
        DUE.is("holes above -1", yard.drum(0, 0, -1, 1, 0), -1);
        DUE.is("holes above 65536", yard.drum(0, 0, 65536, 1, 0), -1);
        DUE.is("weight 0", yard.drum(0, 0, 0, 0, 0), -1);
        DUE.is("weight 10001", yard.drum(0, 0, 0, 10001, 0), -1);
        DUE.is("strength -1", yard.drum(0, 0, 0, 1, -1), -1);
        DUE.is("strength 100001", yard.drum(0, 0, 0, 1, 100001), -1);
        DUE.is("least ints", yard.drum(Yards.LOW, Yards.LOW, Yards.LOW, Yards.LOW, Yards.LOW), -1);
        DUE.is("no drum by refused ones", yard.count(0), 0);
        DUE.is("lowest, by the measure that refused ones left", yard.drum(0, 0, 0, 1, 0), 0);
        yard.measure(100, 100, 0, 1);
        DUE.is("highest", yard.drum(40, 65535, 65535, 10000, 100000), 1);
    }

    private static void promise3DrumNeedsMeasure() {
        DrumYard yard = new DrumYard();
        DUE.is("nothing measured", yard.drum(0, 0, 0, 1, 1), -1);
        yard.measure(99, 100, 0, 1);
        DUE.is("nothing measured but what was refused", yard.drum(0, 0, 0, 1, 1), -1);
        yard.measure(100, 100, 0, 1);
        DUE.is("measured", yard.drum(0, 0, 0, 1, 1), 0);
        DUE.is("nothing measured since", yard.drum(0, 0, 0, 1, 1), -1);
        DUE.is("drums", yard.count(0), 1);
    }

    private static void promise3TenDrums() {
        DrumYard yard = new DrumYard();
        for (int i = 0; i < 10; i++) {
            DUE.is("drum " + i, Yards.plain(yard, 100 + i, 100, 1, 1, 1), i);
        }
        DUE.yes("measured though there are 10", yard.measure(100, 100, 0, 1));
        DUE.is("an eleventh", yard.drum(0, 0, 0, 1, 1), -1);
        DUE.is("drums", yard.count(0), 10);
        DUE.is("the tenth's width", yard.told(9, 0), 109);
    }

    private static void promise4SetBounds() {
        DrumYard yard = new DrumYard();
        DUE.yes("lowest", yard.set(0, 1, 1));
        DUE.yes("highest", yard.set(50, 10000, 5));
        DUE.no("tol -1", yard.set(-1, 1, 1));
        DUE.no("tol 51", yard.set(51, 1, 1));
        DUE.no("stone 0", yard.set(0, 0, 1));
        DUE.no("stone 10001", yard.set(0, 10001, 1));
        DUE.no("ahead 0", yard.set(0, 1, 0));
        DUE.no("ahead 6", yard.set(0, 1, 6));
        DUE.no("least ints", yard.set(Yards.LOW, Yards.LOW, Yards.LOW));
        DUE.no("greatest ints", yard.set(Yards.HIGH, Yards.HIGH, Yards.HIGH));
    }

    private static void promise4FirstSettings() {
        DrumYard yard = new DrumYard();
        Yards.plain(yard, 505, 500, 10, 7, 100000);
        Yards.plain(yard, 506, 600, 10, 7, 100000);
        Yards.plain(yard, 800, 500, 10, 7, 100000);
        DUE.is("tol is 5 at first", yard.turn(0, 2), 0);
        DUE.is("and not 6", yard.turn(1, 2), -1);
        yard.column(2, 0, 0);
        yard.column(2, 0, 0);
        yard.hand(0, 0);
        yard.hand(1, DrumYard.NEW);
        DUE.is("stone is 500 at first", yard.bears(0), 500);
        DUE.is("ahead is 1 at first", yard.setting(1), 2);
        yard.set(6, 501, 2);
        DUE.is("tol set", yard.turn(1, 2), 0);
        DUE.is("stone set", yard.bears(0), 501);
        DUE.is("ahead set", yard.setting(1), 1);
    }

    private static void promise4RefusedSetChangesNothing() {
        DrumYard yard = new DrumYard();
        Yards.plain(yard, 505, 500, 10, 7, 100000);
        Yards.plain(yard, 800, 500, 10, 7, 100000);
        yard.column(2, 0, 0);
        yard.column(2, 0, 0);
        yard.hand(0, 0);
        yard.hand(1, DrumYard.NEW);
        yard.set(0, 501, 0);
        yard.set(0, 10001, 2);
        yard.set(-1, 501, 2);
        DUE.is("tol after refused ones", yard.turn(0, 1), 0);
        DUE.is("stone after refused ones", yard.bears(0), 500);
        DUE.is("ahead after refused ones", yard.setting(1), 2);
    }

    private static void promise6Widths() {
        DrumYard yard = new DrumYard();
        yard.set(3, 500, 1);
        yard.measure(512, 700, 4, 10);
        yard.drum(0, 0, 0, 1, 1);
        yard.measure(900, 500, 5, 10);
        yard.drum(0, 0, 0, 1, 1);
        DUE.is("12 apart: both doubts and tol", yard.turn(0, 1), 0);
        yard.set(2, 500, 1);
        DUE.is("12 apart, of 11", yard.turn(0, 1), -1);
        yard.measure(488, 700, 4, 10);
        yard.drum(0, 0, 0, 1, 1);
        DUE.is("12 apart downwards, of 11", yard.turn(2, 1), -1);
        yard.set(3, 500, 1);
        DUE.is("12 apart downwards, of 12", yard.turn(2, 1), 0);
        DUE.is("the widths of the other sides do not matter", yard.turn(1, 0), -1);
    }

    private static void promise6Flutes() {
        DrumYard yard = new DrumYard();
        Yards.fluted(yard, 20, 0, 0);
        Yards.fluted(yard, 20, 0, 0);
        Yards.fluted(yard, 24, 0, 0);
        Yards.fluted(yard, 0, 0, 0);
        DUE.is("alike", yard.turn(0, 1), 0);
        DUE.is("not alike", yard.turn(0, 2), -1);
        DUE.is("not told of the lower", yard.turn(0, 3), 0);
        DUE.is("not told of the upper", yard.turn(3, 2), 0);
    }

    private static void promise6Holes() {
        DrumYard yard = new DrumYard();
        Yards.fluted(yard, 0, 3, 0);
        Yards.fluted(yard, 0, 32769, 6);
        Yards.fluted(yard, 0, 257, 257);
        Yards.fluted(yard, 0, 65535, 5);
        Yards.fluted(yard, 0, 0, 32769);
        Yards.fluted(yard, 0, 1, 65535);
        DUE.is("turned by 1", yard.turn(0, 1), 1);
        DUE.is("as many holes, otherwise apart", yard.turn(2, 1), -1);
        DUE.is("not told above", yard.turn(2, 0), 0);
        DUE.is("not told below", yard.turn(4, 3), 0);
        DUE.is("other holes", yard.turn(0, 3), -1);
        DUE.is("round to the highest direction", yard.turn(0, 4), 15);
        DUE.is("round past the highest direction", yard.turn(1, 4), 0);
        DUE.is("all directions", yard.turn(3, 5), 0);
        DUE.is("a part is not enough", yard.turn(0, 5), -1);
        Yards.fluted(yard, 0, 514, 0);
        DUE.is("the least of 7 and 15", yard.turn(6, 2), 7);
        Yards.fluted(yard, 0, 3, 16384);
        Yards.fluted(yard, 0, 32768, 257);
        DUE.is("the least of 0 and 8", yard.turn(2, 8), 0);
        DUE.is("15 comes to 14 by 15", yard.turn(8, 7), 15);
    }

    private static void promise6NoSuchOnes() {
        DrumYard yard = Yards.ofAlike(2);
        DUE.is("both ways", yard.turn(0, 1), 0);
        DUE.is("both ways", yard.turn(1, 0), 0);
        DUE.is("alike", yard.turn(0, 0), -1);
        DUE.is("alike", yard.turn(1, 1), -1);
        int[] others = {-1, 2, 10, Yards.LOW, Yards.HIGH};
        for (int other : others) {
            DUE.is("no such upper " + other, yard.turn(other, 0), -1);
            DUE.is("no such lower " + other, yard.turn(0, other), -1);
            DUE.is("no such, alike " + other, yard.turn(other, other), -1);
        }
    }

    private static void promise19Told() {
        DrumYard yard = new DrumYard();
        yard.measure(101, 102, 3, 104);
        yard.drum(5, 6, 7, 8, 9);
        yard.measure(201, 202, 13, 204);
        yard.drum(15, 16, 17, 18, 19);
        int[][] want = {{101, 102, 3, 104, 5, 6, 7, 8, 9}, {201, 202, 13, 204, 15, 16, 17, 18, 19}};
        for (int drum = 0; drum < 2; drum++) {
            for (int what = 0; what <= 8; what++) {
                DUE.is("told(" + drum + ", " + what + ")", yard.told(drum, what), want[drum][what]);
            }
        }
    }

    private static void promise19NoSuchElement() {
        DrumYard yard = Yards.ofAlike(1);
        int[][] wrong = {{0, -1}, {0, 9}, {1, 0}, {-1, 0}, {10, 0}, {1, 9},
            {0, Yards.LOW}, {0, Yards.HIGH}, {Yards.LOW, 0}, {Yards.HIGH, 0}};
        for (int[] row : wrong) {
            boolean threw = false;
            try {
                yard.told(row[0], row[1]);
            } catch (NoSuchElementException e) {
                threw = true;
            }
            DUE.yes("told(" + row[0] + ", " + row[1] + ") throws", threw);
        }
    }

    private static void promise21Drums() {
        DrumYard yard = Yards.ofAlike(3);
        DUE.is("drums", yard.count(0), 3);
        DUE.is("columns", yard.count(1), 0);
        DUE.is("count(-1)", yard.count(-1), -1);
        DUE.is("count(5)", yard.count(5), -1);
        DUE.is("count(least int)", yard.count(Yards.LOW), -1);
        DUE.is("count(greatest int)", yard.count(Yards.HIGH), -1);
    }

    private static void promise21Pairs() {
        DUE.is("a chain of three", Yards.ofThree().count(3), 2);
        DUE.is("three that all lie on one another, either way", Yards.ofAlike(3).count(3), 6);
        DrumYard yard = new DrumYard();
        Yards.plain(yard, 506, 900, 10, 1, 1);
        Yards.plain(yard, 700, 500, 10, 1, 1);
        DUE.is("6 apart, tol 5", yard.count(3), 0);
        yard.set(6, 500, 1);
        DUE.is("6 apart, tol 6", yard.count(3), 1);
    }
}
