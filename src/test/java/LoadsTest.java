/** Promises 15 to 18: what drums bear, which crack, the crane's order, how tall columns are. */
public final class LoadsTest {
    private static final Due DUE = new Due("LoadsTest");
    private static final int NONE = DrumYard.NONE;
    private static final int NEW = DrumYard.NEW;

    public static void main(String[] args) {
        bearsAllAbove();
        bearsOnlyItsColumn();
        bearsNoneWithoutPlace();
        crackedBeyondStrength();
        settingOfOneColumn();
        settingOfEqualColumns();
        settingWithAhead();
        settingPastFullNeighbours();
        settingWithoutStone();
        tallOfDrums();
        tallOfNewStone();
        noWay();
        DUE.end();
    }

    private static void bearsAllAbove() {
        DrumYard yard = Yards.ofThree();
        yard.column(3, 0, 0);
        DUE.is("bears(0)", yard.bears(0), 140);
        DUE.is("bears(1)", yard.bears(1), 60);
        DUE.is("bears(2)", yard.bears(2), 0);
        yard.column(2, 0, 0);
        yard.hand(1, NEW);
        yard.hand(2, NEW);
        yard.hand(0, 0);
        DUE.is("two new stones over it: bears(0)", yard.bears(0), 1000);
        yard.set(5, 10000, 1);
        DUE.is("dearer ones: bears(0)", yard.bears(0), 20000);
        DUE.is("1 below 2: bears(1)", yard.bears(1), 60);
    }

    private static void bearsOnlyItsColumn() {
        DrumYard yard = Yards.ofAlike(3);
        yard.column(2, 0, 0);
        yard.column(1, 0, 0);
        DUE.is("bears(0)", yard.bears(0), 10);
        DUE.is("bears(1), the head", yard.bears(1), 0);
        DUE.is("bears(2), alone", yard.bears(2), 0);
    }

    private static void bearsNoneWithoutPlace() {
        DrumYard yard = Yards.ofAlike(2);
        DUE.is("no places: bears(0)", yard.bears(0), NONE);
        yard.column(1, 0, 0);
        DUE.is("bears(0)", yard.bears(0), 0);
        DUE.is("not in first: bears(1)", yard.bears(1), NONE);
        int[] others = {-1, 2, NEW, Yards.LOW, Yards.HIGH};
        for (int other : others) {
            DUE.is("bears(" + other + ")", yard.bears(other), NONE);
        }
        yard.hand(0, NEW);
        DUE.is("new stone alone: bears(NEW)", yard.bears(NEW), NONE);
        DUE.is("new stone alone: bears(NONE)", yard.bears(NONE), NONE);
    }

    private static void crackedBeyondStrength() {
        DrumYard yard = new DrumYard();
        Yards.plain(yard, 900, 800, 10, 1, 50);
        Yards.plain(yard, 800, 700, 10, 30, 20);
        Yards.plain(yard, 700, 600, 10, 20, 0);
        yard.column(3, 900, 600);
        DUE.is("just as much as strength: cracked()", yard.cracked(), 0);
        yard.hand(2, NEW);
        DUE.is("new stone above: cracked()", yard.cracked(), 3);
        yard.set(5, 20, 1);
        DUE.is("light new stone: cracked()", yard.cracked(), 0);
        yard.set(5, 21, 1);
        DUE.is("heavier by one: cracked()", yard.cracked(), 3);
        yard.hand(0, NEW);
        yard.hand(1, 1);
        DUE.is("only drums crack: cracked()", yard.cracked(), 2);
        yard.hand(1, NEW);
        DUE.is("no drums: cracked()", yard.cracked(), 0);
    }

    private static void order(String name, DrumYard yard, int... want) {
        for (int i = 0; i < want.length; i++) {
            DUE.is(name + ": setting(" + i + ")", yard.setting(i), want[i]);
        }
        DUE.is(name + ": setting(" + want.length + ")", yard.setting(want.length), NONE);
    }

    private static void settingOfOneColumn() {
        DrumYard yard = Yards.ofAlike(2);
        yard.column(4, 0, 0);
        order("one column", yard, 0, 1, 2, 3);
    }

    private static void settingOfEqualColumns() {
        DrumYard yard = new DrumYard();
        yard.column(2, 0, 0);
        yard.column(2, 0, 0);
        yard.column(2, 0, 0);
        order("new stone, ahead 1", yard, 0, 2, 1, 4, 3, 5);
    }

    private static void settingWithAhead() {
        DrumYard yard = new DrumYard();
        yard.column(4, 0, 0);
        yard.column(4, 0, 0);
        order("ahead 1", yard, 0, 4, 1, 5, 2, 6, 3, 7);
        yard.set(5, 500, 2);
        order("ahead 2", yard, 0, 1, 4, 2, 5, 3, 6, 7);
        yard.set(5, 500, 3);
        order("ahead 3", yard, 0, 1, 2, 4, 3, 5, 6, 7);
        yard.set(5, 500, 5);
        order("ahead 5", yard, 0, 1, 2, 3, 4, 5, 6, 7);
    }

    private static void settingPastFullNeighbours() {
        DrumYard yard = new DrumYard();
        yard.column(3, 0, 0);
        yard.column(1, 0, 0);
        yard.column(3, 0, 0);
        yard.column(1, 0, 0);
        order("a short one between", yard, 0, 3, 1, 2, 4, 7, 5, 6);
        DrumYard other = new DrumYard();
        other.column(1, 0, 0);
        other.column(3, 0, 0);
        other.column(3, 0, 0);
        order("a short one first", other, 0, 1, 4, 2, 5, 3, 6);
    }

    private static void settingWithoutStone() {
        DrumYard yard = new DrumYard();
        yard.column(1, 0, 0);
        int[] others = {-1, 1, 8, Yards.LOW, Yards.HIGH};
        for (int other : others) {
            DUE.is("setting(" + other + ")", yard.setting(other), NONE);
        }
        DUE.is("setting(0)", yard.setting(0), 0);
    }

    private static void tallOfDrums() {
        DrumYard yard = Yards.ofThree();
        yard.column(2, 1000, 0);
        yard.column(1, 0, 0);
        DUE.is("tall(0)", yard.tall(0), 700);
        DUE.is("tall(1)", yard.tall(1), 200);
        int[] others = {-1, 2, 4, Yards.LOW, Yards.HIGH};
        for (int other : others) {
            DUE.is("tall(" + other + ")", yard.tall(other), NONE);
        }
    }

    private static void tallOfNewStone() {
        DrumYard yard = new DrumYard();
        yard.column(3, 0, 0);
        DUE.is("without drums: tall(0)", yard.tall(0), 0);
        Yards.plain(yard, 500, 900, 11, 1, 1);
        DUE.is("one drum: tall(0)", yard.tall(0), 33);
        Yards.plain(yard, 500, 900, 13, 1, 1);
        Yards.plain(yard, 500, 900, 14, 1, 1);
        yard.hand(0, NEW);
        yard.hand(1, NEW);
        yard.hand(2, NEW);
        DUE.is("38 by 3, cut, three times: tall(0)", yard.tall(0), 36);
        yard.hand(0, 2);
        DUE.is("14 and 12 twice: tall(0)", yard.tall(0), 38);
    }

    private static void noWay() {
        DrumYard yard = Yards.ofAlike(2);
        yard.column(2, 0, 0);
        yard.hand(0, 0);
        yard.hand(1, 0);
        DUE.is("no way: bears(0)", yard.bears(0), NONE);
        DUE.is("no way: cracked()", yard.cracked(), 0);
        DUE.is("no way: setting(0)", yard.setting(0), NONE);
        DUE.is("no way: tall(0)", yard.tall(0), NONE);
        yard.hand(1, NONE);
        DUE.is("a way again: bears(0)", yard.bears(0), 10);
        DUE.is("a way again: setting(0)", yard.setting(0), 0);
        DUE.is("a way again: tall(0)", yard.tall(0), 200);
    }
}
