import java.util.Arrays;

/** The edges of ways, loads, the crane's order and heights; the empty yard and the full one. */
public final class EdgesTest {
    private static final Due DUE = new Due("EdgesTest");
    private static final int NONE = DrumYard.NONE;
    private static final int NEW = DrumYard.NEW;
    private static final int MOST_CALLS = 512;

    public static void main(String[] args) {
        constants();
        emptyYard();
        emptyYardWithDrumsAlone();
        noneTwice();
        lowestAndHighestPlace();
        newStoneLiesOnAll();
        handsWord();
        notThere();
        leastNewStone();
        firstOfBest();
        sureAndOpen();
        bearsAllAbove();
        crackedBeyondStrength();
        stoneByStone();
        lowestNotFull();
        neighbours();
        fewestIfNone();
        tall();
        newStoneIsCut();
        fullYard();
        lastOfCalls();
        lastOfCallsWithoutWay();
        DUE.end();
    }

    private static void constants() {
        DrumYard yard = Yards.ofColumns(1);
        DUE.of("`NONE = -1`: There is none; refused.");
        DUE.is("NONE", DrumYard.NONE, -1);
        DUE.is("no such place", yard.first(1), -1);
        DUE.is("refused", yard.column(0, 0, 0), -1);
        DUE.of("`NEW = 10`: New stone.");
        DUE.is("NEW", DrumYard.NEW, 10);
        DUE.is("new stone in FIRST", yard.first(0), 10);
    }

    private static void emptyYard() {
        DUE.of("No DRUMS, no COLUMNS.");
        DrumYard yard = new DrumYard();
        for (int what = 0; what <= 4; what++) {
            DUE.is("count(" + what + ")", yard.count(what), 0);
        }
        DUE.is("least(), of the one way without places", yard.least(), 0);
        DUE.is("ways(), the one without places", yard.ways(), 1);
        DUE.is("cracked()", yard.cracked(), 0);
        for (int i = -1; i <= 10; i++) {
            DUE.is("first(" + i + ")", yard.first(i), NONE);
            DUE.is("sure(" + i + ")", yard.sure(i), NONE);
            DUE.is("open(" + i + ")", yard.open(i), 0);
            DUE.is("bears(" + i + ")", yard.bears(i), NONE);
            DUE.is("setting(" + i + ")", yard.setting(i), NONE);
            DUE.is("tall(" + i + ")", yard.tall(i), NONE);
            DUE.is("told(" + i + ", 0)", Sight.told(yard, i, 0), Sight.THREW);
            DUE.is("place(" + i + ", 0)", yard.place(i, 0), NONE);
            DUE.is("turn(" + i + ", 1)", yard.turn(i, 1), NONE);
            DUE.is("fits(" + i + ", 0)", yard.fits(i, 0), NONE);
            DUE.no("hand(" + i + ", NEW)", yard.hand(i, NEW));
            DUE.no("not(" + i + ", 0, true)", yard.not(i, 0, true));
        }
        DUE.is("drum() without a measure", yard.drum(0, 0, 0, 1, 1), NONE);
        DUE.is("the first drum", Yards.plain(yard, 500, 500, 10, 1, 1), 0);
        DUE.is("the first column", yard.column(1, 0, 0), 0);
    }

    private static void emptyYardWithDrumsAlone() {
        DUE.of("OPEN are the PLACES at which it is in some of them.");
        DrumYard yard = Yards.ofAlike(10);
        DUE.is("no places: least()", yard.least(), 0);
        DUE.is("no places: ways()", yard.ways(), 1);
        DUE.is("no places: open(9)", yard.open(9), 0);
        DUE.is("no places: sure(9)", yard.sure(9), NONE);
        DUE.is("no places: bears(9)", yard.bears(9), NONE);
        DUE.is("no places: cracked()", yard.cracked(), 0);
    }

    private static void noneTwice() {
        DUE.of("A WAY has at each PLACE a DRUM, none twice, or new stone.");
        DrumYard yard = Yards.ofAlike(1);
        yard.column(1, 0, 0);
        yard.column(1, 0, 0);
        DUE.is("one drum, two columns: least()", yard.least(), 1);
        DUE.is("one drum, two columns: ways()", yard.ways(), 2);
        DUE.yes("the drum told at the one", yard.hand(0, 0));
        DUE.yes("and at the other", yard.hand(1, 0));
        DUE.is("told twice: least()", yard.least(), NONE);
        DUE.is("told twice: ways()", yard.ways(), 0);
        DrumYard within = Yards.ofAlike(1);
        within.column(5, 0, 0);
        DUE.is("one drum, one column of five: least()", within.least(), 4);
        DUE.is("one drum, one column of five: ways()", within.ways(), 5);
    }

    private static void lowestAndHighestPlace() {
        DUE.of("A DRUM at the lowest PLACE of a COLUMN FITS its foot, one at the highest its head");
        DrumYard yard = new DrumYard();
        Yards.plain(yard, 500, 500, 10, 1, 1);
        yard.column(3, 505, 505);
        DUE.is("fits both, just: open(0)", yard.open(0), 7);
        DrumYard wide = new DrumYard();
        Yards.plain(wide, 500, 500, 10, 1, 1);
        wide.column(3, 506, 506);
        DUE.is("fits neither, by one: open(0)", wide.open(0), 2);
        wide.column(1, 506, 0);
        wide.column(1, 0, 506);
        DUE.is("one place is lowest and highest: open(0)", wide.open(0), 2);
        wide.column(1, 0, 0);
        DUE.is("one place, neither told: open(0)", wide.open(0), 2 + 32);
        wide.set(6, 500, 1);
        DUE.is("tol wider by one: open(0)", wide.open(0), 63);
    }

    private static void newStoneLiesOnAll() {
        DUE.of("one above another one LIES ON it (new stone lies on all, and all on it)");
        DrumYard yard = new DrumYard();
        Yards.plain(yard, 500, 500, 10, 1, 1);
        Yards.plain(yard, 506, 600, 10, 1, 1);
        yard.column(2, 500, 600);
        DUE.is("6 apart of 5: least()", yard.least(), 1);
        DUE.is("a new one on 0, or 1 on a new one: ways()", yard.ways(), 2);
        yard.set(6, 500, 1);
        DUE.is("6 apart of 6: least()", yard.least(), 0);
        DUE.is("6 apart of 6: ways()", yard.ways(), 1);
        DrumYard side = new DrumYard();
        Yards.plain(side, 500, 600, 10, 1, 1);
        Yards.plain(side, 500, 600, 10, 1, 1);
        side.column(1, 0, 0);
        side.column(1, 0, 0);
        DUE.is("a foot lies on no other column's head: least()", side.least(), 0);
        DUE.is("a foot lies on no other column's head: ways()", side.ways(), 2);
    }

    private static void handsWord() {
        DUE.of("a DRUM (it is there), NEW (new stone is), or nothing");
        DrumYard yard = Yards.full();
        DUE.yes("the last drum at the last place", yard.hand(7, 9));
        DUE.is("told at two places: ways()", yard.ways(), 0);
        DUE.yes("nothing at the first place", yard.hand(0, NONE));
        DUE.is("first(7)", yard.first(7), 9);
        DUE.is("sure(9)", yard.sure(9), 7);
        DUE.yes("the first drum at the first place", yard.hand(0, 0));
        DUE.is("sure(0)", yard.sure(0), 0);
        DUE.yes("new stone at the first place", yard.hand(0, NEW));
        DUE.is("first(0)", yard.first(0), NEW);
        DUE.is("least()", yard.least(), 1);
        DUE.yes("the same word again is no refusal", yard.hand(0, NEW));
        DUE.yes("nothing", yard.hand(0, NONE));
        DUE.yes("nothing again is no refusal", yard.hand(0, NONE));
        DUE.is("least() of nothing told there", yard.least(), 0);
    }

    private static void notThere() {
        DUE.of("and of a DRUM and a PLACE that it is NOT there. A WAY keeps all of that.");
        DrumYard yard = Yards.ofAlike(10);
        yard.column(1, 0, 0);
        for (int drum = 0; drum < 9; drum++) {
            DUE.yes("not(0, " + drum + ", true)", yard.not(0, drum, true));
            DUE.is("ways()", yard.ways(), 9 - drum);
            DUE.is("first(0)", yard.first(0), drum + 1);
        }
        DUE.is("the last one left: sure(9)", yard.sure(9), 0);
        DUE.yes("not(0, 9, true)", yard.not(0, 9, true));
        DUE.is("none left: first(0)", yard.first(0), NEW);
        DUE.is("none left: ways()", yard.ways(), 1);
        DUE.yes("hand(0, 9), which is barred", yard.hand(0, 9));
        DUE.is("both kept, so ways()", yard.ways(), 0);
        DUE.yes("not(0, 9, false)", yard.not(0, 9, false));
        DUE.is("taken back: ways()", yard.ways(), 1);
        DUE.is("taken back: first(0)", yard.first(0), 9);
    }

    private static void leastNewStone() {
        DUE.of("BEST are the WAYS with the least new stone");
        DrumYard yard = Yards.ofColumns(5, 3);
        for (int drums = 0; drums <= 10; drums++) {
            DUE.is(drums + " drums, 8 places: least()", yard.least(), Math.max(0, 8 - drums));
            DUE.is(drums + " drums, 8 places: ways()", yard.ways(), waysToPlace(drums, 8));
            Yards.plain(yard, 500, 500, 10, 1, 1);
        }
    }

    /** The more of drums and places choose, one by one, among the others. */
    private static long waysToPlace(int drums, int places) {
        long ways = 1;
        for (int i = 0; i < Math.min(drums, places); i++) {
            ways *= Math.max(drums, places) - i;
        }
        return ways;
    }

    private static void firstOfBest() {
        DUE.of("FIRST of them is the one that has the lower DRUM (new stone behind all DRUMS) at the first PLACE");
        DrumYard yard = Yards.ofAlike(10);
        yard.column(5, 0, 0);
        yard.column(3, 0, 0);
        yard.not(0, 0, true);
        int[] want = {1, 0, 2, 3, 4, 5, 6, 7};
        for (int place = 0; place < 8; place++) {
            DUE.is("0 barred from the foot: first(" + place + ")", yard.first(place), want[place]);
        }
        DrumYard few = Yards.ofAlike(1);
        few.column(2, 0, 0);
        DUE.is("the last drum before new stone: first(0)", few.first(0), 0);
        DUE.is("the last drum before new stone: first(1)", few.first(1), NEW);
        DrumYard fewest = new DrumYard();
        Yards.plain(fewest, 500, 900, 10, 1, 1);
        Yards.plain(fewest, 500, 500, 10, 1, 1);
        Yards.plain(fewest, 500, 900, 10, 1, 1);
        fewest.column(2, 0, 0);
        DUE.is("least new stone before lower drums: first(0)", fewest.first(0), 1);
        DUE.is("least new stone before lower drums: first(1)", fewest.first(1), 0);
    }

    private static void sureAndOpen() {
        DUE.of("SURE of a DRUM is a PLACE at which it is in all that are BEST");
        DrumYard yard = Yards.ofAlike(10);
        yard.column(5, 0, 0);
        yard.column(3, 0, 0);
        yard.hand(7, 9);
        DUE.is("the last drum at the last place: sure(9)", yard.sure(9), 7);
        DUE.is("the last drum at the last place: open(9)", yard.open(9), 128);
        DUE.is("one of nine at seven: sure(0)", yard.sure(0), NONE);
        DUE.is("one of nine at seven: open(0)", yard.open(0), 127);
        yard.not(7, 9, true);
        DUE.is("no way: sure(9)", yard.sure(9), NONE);
        DUE.is("no way: open(0)", yard.open(0), 0);
        DrumYard two = Yards.ofAlike(1);
        two.column(2, 0, 0);
        DUE.is("in all of them, but not at one place: sure(0)", two.sure(0), NONE);
        DUE.is("in all of them, but not at one place: open(0)", two.open(0), 3);
    }

    private static void bearsAllAbove() {
        DUE.of("a DRUM bears the WEIGHT of all DRUMS above it in its COLUMN, and of new stone there STONE each");
        DrumYard yard = new DrumYard();
        for (int drum = 0; drum < 8; drum++) {
            Yards.plain(yard, 500, 500, 10, 10000 - drum, 100000);
        }
        yard.column(5, 0, 0);
        yard.column(3, 0, 0);
        int[] want = {39990, 29991, 19993, 9996, 0, 19987, 9993, 0};
        for (int drum = 0; drum < 8; drum++) {
            DUE.is("bears(" + drum + ")", yard.bears(drum), want[drum]);
        }
        yard.set(5, 10000, 1);
        for (int place = 1; place < 5; place++) {
            yard.hand(place, NEW);
        }
        yard.hand(0, 0);
        DUE.is("four of the heaviest new stones: bears(0)", yard.bears(0), 40000);
        yard.set(5, 1, 1);
        DUE.is("four of the lightest new stones: bears(0)", yard.bears(0), 4);
    }

    private static void crackedBeyondStrength() {
        DUE.of("CRACKED is one that bears more than its STRENGTH.");
        DUE.is("nothing on strength 0", crackedWith(0, 1, 1), 0);
        DUE.is("1 on strength 0", crackedWith(0, 2, 1), 1);
        DUE.is("1 on strength 1", crackedWith(1, 2, 1), 0);
        DUE.is("10,000 on strength 9,999", crackedWith(9999, 2, 10000), 1);
        DUE.is("10,000 on strength 10,000", crackedWith(10000, 2, 10000), 0);
        DUE.is("40,000 on strength 39,999", crackedWith(39999, 5, 10000), 1);
        DUE.is("40,000 on strength 40,000", crackedWith(40000, 5, 10000), 0);
        DrumYard yard = new DrumYard();
        for (int drum = 0; drum < 10; drum++) {
            Yards.plain(yard, 500, 500, 10, 1, 0);
        }
        yard.column(2, 0, 0);
        yard.hand(0, 9);
        DUE.is("the last drum: cracked()", yard.cracked(), 512);
    }

    private static int crackedWith(int strength, int places, int stone) {
        DrumYard yard = new DrumYard();
        yard.set(5, stone, 1);
        Yards.plain(yard, 500, 500, 10, 1, strength);
        yard.column(places, 0, 0);
        yard.hand(0, 0);
        return yard.cracked();
    }

    private static void stoneByStone() {
        DUE.of("stone by stone, new stone as well");
        DrumYard yard = Yards.ofAlike(2);
        yard.column(2, 0, 0);
        yard.column(2, 0, 0);
        setIn("two drums, two new stones", yard, 0, 2, 1, 3);
        DUE.is("two new stones: least()", yard.least(), 2);
        yard.hand(0, NEW);
        yard.hand(2, NEW);
        setIn("new stone at both feet", yard, 0, 2, 1, 3);
        yard.hand(1, 0);
        yard.hand(3, 0);
        DUE.is("no way, so no stone: setting(0)", yard.setting(0), NONE);
    }

    private static void lowestNotFull() {
        DUE.of("next is always the lowest COLUMN that is not full");
        setIn("one stone each", Yards.ofColumns(1, 1, 1, 1), 0, 1, 2, 3);
        DrumYard yard = Yards.ofColumns(1, 5, 2);
        yard.set(5, 500, 5);
        setIn("each full before the next", yard, 0, 1, 2, 3, 4, 5, 6, 7);
        yard.set(5, 500, 4);
        setIn("all but the last stone before the next", yard, 0, 1, 2, 3, 4, 6, 5, 7);
    }

    private static void neighbours() {
        DUE.of("each neighbour (the COLUMN of a number one lower or higher) that is not full has");
        setIn("one lower", Yards.ofColumns(2, 2), 0, 2, 1, 3);
        setIn("two apart are no neighbours", Yards.ofColumns(3, 1, 3), 0, 3, 1, 2, 4, 5, 6);
        setIn("first and last are no neighbours", Yards.ofColumns(2, 1, 1, 2), 0, 2, 1, 3, 4, 5);
        setIn("a full one higher", Yards.ofColumns(5, 1), 0, 5, 1, 2, 3, 4);
        setIn("a full one lower", Yards.ofColumns(1, 5), 0, 1, 2, 3, 4, 5);
        setIn("no neighbour", Yards.ofColumns(5), 0, 1, 2, 3, 4);
    }

    private static void setIn(String name, DrumYard yard, int... want) {
        for (int i = 0; i < want.length; i++) {
            DUE.is(name + ": setting(" + i + ")", yard.setting(i), want[i]);
        }
        DUE.is(name + ": setting(-1)", yard.setting(-1), NONE);
        DUE.is(name + ": setting(" + want.length + ")", yard.setting(want.length), NONE);
    }

    /** With AHEAD at least 1 there is always one: in every yard the crane ends, as the plain one does. */
    private static void fewestIfNone() {
        DUE.of("if there is none, the lowest of those that have the fewest");
        for (int code = 0; code < 6 * 6 * 6 * 6; code++) {
            int[] sizes = {code % 6, code / 6 % 6, code / 36 % 6, code / 216};
            if (sizes[0] + sizes[1] + sizes[2] + sizes[3] <= 8) {
                setAsPlain(sizes);
            }
        }
    }

    private static void setAsPlain(int[] sizes) {
        DrumYard yard = Yards.ofColumns(sizes);
        PlainYard plain = new PlainYard();
        for (int size : sizes) {
            plain.column(size, 0, 0);
        }
        String name = Arrays.toString(sizes);
        for (int ahead = 1; ahead <= 5; ahead++) {
            yard.set(5, 500, ahead);
            plain.set(5, 500, ahead);
            for (int i = 0; i <= 8; i++) {
                String call = name + ", ahead " + ahead + ": setting(" + i + ")";
                DUE.is(call, yard.setting(i), plain.setting(i));
            }
        }
    }

    private static void tall() {
        DUE.of("TALL is how high a COLUMN is then");
        DrumYard lowest = new DrumYard();
        DrumYard highest = new DrumYard();
        for (int drum = 0; drum < 10; drum++) {
            Yards.plain(lowest, 500, 500, 1, 1, 1);
            Yards.plain(highest, 500, 500, 2000, 1, 1);
        }
        lowest.column(5, 0, 0);
        highest.column(5, 0, 0);
        DUE.is("five of height 1: tall(0)", lowest.tall(0), 5);
        DUE.is("five of height 2,000: tall(0)", highest.tall(0), 10000);
        highest.column(1, 0, 0);
        highest.column(1, 0, 0);
        highest.column(1, 0, 0);
        DUE.is("the last column: tall(3)", highest.tall(3), 2000);
        for (int place = 0; place < 5; place++) {
            highest.hand(place, NEW);
        }
        DUE.is("five new ones of height 2,000: tall(0)", highest.tall(0), 10000);
    }

    private static void newStoneIsCut() {
        DUE.of("(new stone: the sum of the heights of all DRUMS told by how many they are, cut; 0 without)");
        DrumYard yard = Yards.ofColumns(1, 2);
        DUE.is("without drums: tall(0)", yard.tall(0), 0);
        DUE.is("without drums, two places: tall(1)", yard.tall(1), 0);
        for (int place = 0; place < 3; place++) {
            yard.hand(place, NEW);
        }
        Yards.plain(yard, 500, 500, 1, 1, 1);
        DUE.is("1 by 1: tall(0)", yard.tall(0), 1);
        Yards.plain(yard, 500, 500, 2, 1, 1);
        DUE.is("3 by 2, cut: tall(0)", yard.tall(0), 1);
        DUE.is("3 by 2, each cut: tall(1)", yard.tall(1), 2);
        Yards.plain(yard, 500, 500, 5, 1, 1);
        DUE.is("8 by 3, cut: tall(0)", yard.tall(0), 2);
        Yards.plain(yard, 500, 500, 4, 1, 1);
        DUE.is("12 by 4: tall(0)", yard.tall(0), 3);
        yard.measure(500, 500, 0, 2000);
        DUE.is("a measure alone is no drum: tall(0)", yard.tall(0), 3);
    }

    private static void fullYard() {
        DUE.of("8 PLACES in all at most");
        DrumYard yard = Yards.full();
        int[] counts = {10, 4, 8, 90, 2};
        for (int what = 0; what <= 4; what++) {
            DUE.is("count(" + what + ")", yard.count(what), counts[what]);
        }
        DUE.is("least()", yard.least(), 1);
        DUE.is("9 at the foot, 9 others at 6 places, 0 not at the sixth: ways()", yard.ways(), 53760);
        DUE.is("first(0)", yard.first(0), 9);
        DUE.is("first(7)", yard.first(7), NEW);
        DUE.is("turn(9, 8)", yard.turn(9, 8), 0);
        DUE.is("fits(9, 3)", yard.fits(9, 3), 3);
        DUE.is("sure(9)", yard.sure(9), 0);
        DUE.is("open(8)", yard.open(8), 126);
        DUE.is("open(0)", yard.open(0), 62);
        DUE.is("bears(9), under one drum", yard.bears(9), 10);
        DUE.is("setting(7)", yard.setting(7), 7);
        DUE.is("tall(3)", yard.tall(3), 200);
        DUE.is("told(9, 8)", Sight.told(yard, 9, 8), 1000);
        DUE.is("place(7, 0)", yard.place(7, 0), 3);
        DUE.is("place(7, 1)", yard.place(7, 1), 1);
        DUE.is("place(7, 2)", yard.place(7, 2), NEW);
        DUE.yes("not(7, 9, true)", yard.not(7, 9, true));
        DUE.yes("hand(7, 8)", yard.hand(7, 8));
        DUE.is("sure(8)", yard.sure(8), 7);
    }

    private static void lastOfCalls() {
        DUE.of("An object is used for at most 512 calls after it has been made");
        DrumYard yard = Yards.ofAlike(10);
        yard.column(5, 0, 0);
        yard.column(3, 0, 0);
        boolean isBarred = false;
        for (int call = 23; call <= MOST_CALLS; call += 2) {
            isBarred = !isBarred;
            DUE.yes("call " + call + ": not()", yard.not(7, 9, isBarred));
            DUE.is("call " + (call + 1) + ": ways()", yard.ways(), isBarred ? 1632960 : 1814400);
        }
    }

    private static void lastOfCallsWithoutWay() {
        DUE.of("An object is used for at most 512 calls after it has been made");
        DrumYard yard = Yards.full();
        for (int call = 29; call <= MOST_CALLS; call += 2) {
            boolean isTwice = call % 4 == 1;
            DUE.yes("call " + call + ": hand()", yard.hand(6, isTwice ? 9 : NONE));
            DUE.is("call " + (call + 1) + ": ways()", yard.ways(), isTwice ? 0 : 53760);
        }
    }
}
