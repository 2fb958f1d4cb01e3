/** The edges at which two drums, or a drum and a column, no longer meet: 'Terms'. */
public final class MeetingTest {
    private static final Due DUE = new Due("MeetingTest");
    private static final int NONE = DrumYard.NONE;
    private static final int ALL = 65535;

    public static void main(String[] args) {
        widthsApart();
        flutesAlike();
        holesTurned();
        holesJustTheOthers();
        holesNotTold();
        leastTurn();
        footApart();
        headLikewise();
        pairs();
        pairsOfFullYard();
        DUE.end();
    }

    private static void widthsApart() {
        DUE.of("the one's width below and the other one's above are at most both DOUBTS and TOL");
        apart(0, 0, 0);
        apart(50, 0, 0);
        apart(0, 50, 0);
        apart(0, 0, 50);
        apart(3, 4, 5);
        apart(50, 50, 50);
        DUE.is("lowest on highest", turnOfWidths(100, 3000, 50, 50, 50), NONE);
        DUE.is("highest on lowest", turnOfWidths(3000, 100, 50, 50, 50), NONE);
        DUE.is("lowest on lowest", turnOfWidths(100, 100, 0, 0, 0), 0);
        DUE.is("highest on highest", turnOfWidths(3000, 3000, 0, 0, 0), 0);
    }

    private static void apart(int doubt, int otherDoubt, int tol) {
        int most = doubt + otherDoubt + tol;
        String name = "doubts " + doubt + ", " + otherDoubt + ", tol " + tol + ": ";
        DUE.is(name + most + " wider", turnOfWidths(1000 + most, 1000, doubt, otherDoubt, tol), 0);
        DUE.is(name + most + " narrower", turnOfWidths(1000 - most, 1000, doubt, otherDoubt, tol), 0);
        DUE.is(name + "one more wider", turnOfWidths(1001 + most, 1000, doubt, otherDoubt, tol), NONE);
        DUE.is(name + "one more narrower", turnOfWidths(999 - most, 1000, doubt, otherDoubt, tol), NONE);
    }

    /** The sides that do not meet are as far as can be from those that do. */
    private static int turnOfWidths(int below, int othersAbove, int doubt, int otherDoubt, int tol) {
        DrumYard yard = new DrumYard();
        yard.set(tol, 500, 1);
        yard.measure(2000, othersAbove, otherDoubt, 10);
        yard.drum(0, 0, 0, 1, 1);
        yard.measure(below, 2500, doubt, 10);
        yard.drum(0, 0, 0, 1, 1);
        return yard.turn(1, 0);
    }

    private static void flutesAlike() {
        DUE.of("FLUTES are alike, or not told of one");
        DUE.is("1 on 1", turnOfFlutes(1, 1), 0);
        DUE.is("40 on 40", turnOfFlutes(40, 40), 0);
        DUE.is("1 on 2", turnOfFlutes(1, 2), NONE);
        DUE.is("40 on 39", turnOfFlutes(40, 39), NONE);
        DUE.is("1 on 40", turnOfFlutes(1, 40), NONE);
        DUE.is("not told on 1", turnOfFlutes(0, 1), 0);
        DUE.is("not told on 40", turnOfFlutes(0, 40), 0);
        DUE.is("1 on not told", turnOfFlutes(1, 0), 0);
        DUE.is("40 on not told", turnOfFlutes(40, 0), 0);
        DUE.is("not told on not told", turnOfFlutes(0, 0), 0);
    }

    private static int turnOfFlutes(int flutes, int others) {
        DrumYard yard = new DrumYard();
        Yards.fluted(yard, others, 0, 0);
        Yards.fluted(yard, flutes, 0, 0);
        return yard.turn(1, 0);
    }

    private static void holesTurned() {
        DUE.of("turned by some r (each direction d comes to d and r modulo 16)");
        for (int d = 0; d < 16; d++) {
            for (int r = 0; r < 16; r++) {
                int comesTo = (d + r) % 16;
                DUE.is(d + " to " + comesTo, turnOfHoles(1 << d, 1 << comesTo), r);
            }
        }
        DUE.is("the last direction to the first", turnOfHoles(1 << 15, 1), 1);
        DUE.is("the first direction to the last", turnOfHoles(1, 1 << 15), 15);
        DUE.is("14 and 15 to 15 and 0", turnOfHoles(0xC000, 0x8001), 1);
        DUE.is("0 and 1 to 15 and 0", turnOfHoles(0x0003, 0x8001), 15);
        DUE.is("15 and 0 to 0 and 1", turnOfHoles(0x8001, 0x0003), 1);
        DUE.is("seven and a gap, all round", turnOfHoles(0xFE80, 0xF407), 3);
    }

    private static void holesJustTheOthers() {
        DUE.of("are just the other one's HOLES above, or one of these two is not told");
        DUE.is("all on all", turnOfHoles(ALL, ALL), 0);
        DUE.is("all but one on all", turnOfHoles(ALL - 1, ALL), NONE);
        DUE.is("all on all but one", turnOfHoles(ALL, ALL - 1), NONE);
        DUE.is("all but one on all but another", turnOfHoles(ALL - 1, ALL - 32768), 15);
        DUE.is("one on two", turnOfHoles(1, 3), NONE);
        DUE.is("two on one", turnOfHoles(3, 1), NONE);
        DUE.is("two as far apart by the other way round", turnOfHoles(0x0101, 0x8080), 7);
        DUE.is("two, not as far apart", turnOfHoles(3, 5), NONE);
        DUE.is("mirrored, not turned", turnOfHoles(0x000B, 0x000D), NONE);
    }

    private static void holesNotTold() {
        DUE.of("(0, if one is not told)");
        for (int holes : new int[] {1, 2, 32768, ALL}) {
            DUE.is("not told on " + holes, turnOfHoles(0, holes), 0);
            DUE.is(holes + " on not told", turnOfHoles(holes, 0), 0);
        }
        DUE.is("neither told", turnOfHoles(0, 0), 0);
        DrumYard yard = new DrumYard();
        Yards.fluted(yard, 0, 0, 5);
        Yards.fluted(yard, 0, 3, 0);
        DUE.is("only those that meet matter: told, unlike", yard.turn(1, 0), NONE);
        DUE.is("only those that meet matter: neither told", yard.turn(0, 1), 0);
    }

    private static void leastTurn() {
        DUE.of("TURN is the least such r");
        DUE.is("every r", turnOfHoles(ALL, ALL), 0);
        DUE.is("every second r, from 0", turnOfHoles(0x5555, 0x5555), 0);
        DUE.is("every second r, from 1", turnOfHoles(0x5555, 0xAAAA), 1);
        DUE.is("every second r, past the last direction", turnOfHoles(0xAAAA, 0x5555), 1);
        DUE.is("0 and 8", turnOfHoles(0x0101, 0x0101), 0);
        DUE.is("7 and 15", turnOfHoles(0x0202, 0x0101), 7);
        DUE.is("3, 7, 11 and 15", turnOfHoles(0x1111, 0x8888), 3);
        DUE.is("15 alone", turnOfHoles(0x0002, 0x0001), 15);
    }

    private static int turnOfHoles(int below, int othersAbove) {
        DrumYard yard = new DrumYard();
        Yards.fluted(yard, 0, 0, othersAbove);
        Yards.fluted(yard, 0, below, 0);
        return yard.turn(1, 0);
    }

    private static void footApart() {
        DUE.of("its width below and FOOT are at most its DOUBT and TOL apart (or FOOT is not told)");
        sideApart(true);
        DUE.is("neither fits", fitsBy(new int[] {50, 50}, new int[] {100, 3000}, new int[] {3000, 100}), 0);
    }

    private static void headLikewise() {
        DUE.of("the head likewise by its width above");
        sideApart(false);
        DUE.is("neither told", fitsBy(new int[] {0, 0}, new int[] {100, 3000}, new int[] {0, 0}), 3);
    }

    /** The other side fits in all of these. */
    private static void sideApart(boolean isFoot) {
        int both = 3;
        int other = isFoot ? 2 : 1;
        for (int[] row : new int[][] {{0, 0}, {50, 0}, {0, 50}, {3, 4}, {50, 50}}) {
            int most = row[0] + row[1];
            String name = "doubt " + row[0] + ", tol " + row[1] + ": ";
            DUE.is(name + most + " wider", fitsBySide(isFoot, row, 1000 + most, 1000), both);
            DUE.is(name + most + " narrower", fitsBySide(isFoot, row, 1000 - most, 1000), both);
            DUE.is(name + "one more wider", fitsBySide(isFoot, row, 1001 + most, 1000), other);
            DUE.is(name + "one more narrower", fitsBySide(isFoot, row, 999 - most, 1000), other);
        }
        DUE.is("lowest, not told", fitsBySide(isFoot, new int[] {0, 0}, 100, 0), both);
        DUE.is("highest, not told", fitsBySide(isFoot, new int[] {0, 0}, 3000, 0), both);
        DUE.is("lowest for highest", fitsBySide(isFoot, new int[] {50, 50}, 100, 3000), other);
        DUE.is("highest for lowest", fitsBySide(isFoot, new int[] {50, 50}, 3000, 100), other);
    }

    private static int fitsBySide(boolean isFoot, int[] doubtAndTol, int width, int wanted) {
        int[] widths = isFoot ? new int[] {width, 2000} : new int[] {2000, width};
        int[] footAndHead = isFoot ? new int[] {wanted, 2000} : new int[] {2000, wanted};
        return fitsBy(doubtAndTol, widths, footAndHead);
    }

    private static int fitsBy(int[] doubtAndTol, int[] widths, int[] footAndHead) {
        DrumYard yard = new DrumYard();
        yard.set(doubtAndTol[1], 500, 1);
        yard.measure(widths[0], widths[1], doubtAndTol[0], 10);
        yard.drum(0, 0, 0, 1, 1);
        yard.column(1, footAndHead[0], footAndHead[1]);
        return yard.fits(0, 0);
    }

    /** LIES ON tells the one from the other, so two drums are two pairs if each lies on the other. */
    private static void pairs() {
        DUE.of("3 pairs of which the one LIES ON the other");
        DUE.is("1 on 0 alone", pairsOf(new int[] {700, 600}, new int[] {600, 500}), 1);
        DUE.is("0 on 1 alone", pairsOf(new int[] {600, 500}, new int[] {700, 600}), 1);
        DUE.is("1 on 0 and 0 on 1", pairsOf(new int[] {700, 600}, new int[] {600, 700}), 2);
        DUE.is("neither", pairsOf(new int[] {700, 600}, new int[] {500, 400}), 0);
        DUE.is("alone, as wide above as below", pairsOf(new int[] {600, 600}), 0);
        DUE.is("one below two", pairsOf(new int[] {700, 600}, new int[] {600, 500}, new int[] {600, 400}), 2);
        DUE.is("one above two", pairsOf(new int[] {600, 500}, new int[] {700, 600}, new int[] {800, 600}), 2);
        DUE.is("in a ring", pairsOf(new int[] {600, 500}, new int[] {500, 400}, new int[] {400, 600}), 3);
    }

    private static int pairsOf(int[]... widths) {
        DrumYard yard = new DrumYard();
        for (int[] row : widths) {
            Yards.plain(yard, row[0], row[1], 10, 1, 1);
        }
        return yard.count(3);
    }

    private static void pairsOfFullYard() {
        DUE.of("3 pairs of which the one LIES ON the other");
        for (int tol = 0; tol <= 50; tol++) {
            DrumYard yard = ofTenUnlike();
            yard.set(tol, 500, 1);
            DUE.is("tol " + tol + ": as many as turn() tells of", yard.count(3), turnsOf(yard));
        }
    }

    private static DrumYard ofTenUnlike() {
        DrumYard yard = new DrumYard();
        for (int drum = 0; drum < 10; drum++) {
            yard.measure(500 + drum, 505 - drum, drum % 3, 10);
            yard.drum(20 * (drum % 3), drum % 4, 2 * (drum % 4), 1, 1);
        }
        return yard;
    }

    private static int turnsOf(DrumYard yard) {
        int turns = 0;
        for (int above = 0; above < 10; above++) {
            for (int below = 0; below < 10; below++) {
                turns += yard.turn(above, below) == NONE ? 0 : 1;
            }
        }
        return turns;
    }
}
