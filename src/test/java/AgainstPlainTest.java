import java.util.NoSuchElementException;
import java.util.Random;

/** Long runs of calls of every kind, right and wrong, against the slow and plain yard. */
public final class AgainstPlainTest {
    private static final Due DUE = new Due("AgainstPlainTest");
    private static final int RUNS = 2000;
    /** Each is at most two calls that change and fourteen that ask: 512 in all, and no more are promised. */
    private static final int STEPS = 32;
    private static final int[] HOLES = {0, 0, 3, 5, 6, 257, 32769, 65535};

    private final Random random;
    private final int mostDrums;
    private final int mostPlaces;
    private final DrumYard yard = new DrumYard();
    private final PlainYard plain = new PlainYard();

    private AgainstPlainTest(int seed) {
        random = new Random(seed);
        mostDrums = 2 + random.nextInt(5);
        mostPlaces = 2 + random.nextInt(5);
    }

    public static void main(String[] args) {
        for (int seed = 0; seed < RUNS; seed++) {
            new AgainstPlainTest(seed).run(seed);
        }
        for (int seed = 0; seed < 4; seed++) {
            new AgainstPlainTest(seed).full(seed);
        }
        DUE.end();
    }

    private void run(int seed) {
        for (int i = 0; i < STEPS; i++) {
            String when = "seed " + seed + ", step " + i + ": ";
            change(when);
            ask(when);
        }
    }

    /** Ten drums and eight places, but with widths that few drums share. */
    private void full(int seed) {
        for (int i = 0; i < 10; i++) {
            int below = 500 + 20 * random.nextInt(3);
            int above = 500 + 20 * random.nextInt(3);
            yard.measure(below, above, i % 3, 10 + i);
            plain.measure(below, above, i % 3, 10 + i);
            yard.drum(0, 0, 0, 1 + i, 12);
            plain.drum(0, 0, 0, 1 + i, 12);
        }
        for (int size = 4; size >= 1; size -= size == 4 ? 1 : 2) {
            yard.column(size, size == 3 ? 0 : 500, 520);
            plain.column(size, size == 3 ? 0 : 500, 520);
        }
        askAll("full " + seed + ": ");
        for (int i = 0; i < 5; i++) {
            int place = random.nextInt(8);
            yard.not(place, plain.first(place), true);
            plain.not(place, plain.first(place), true);
            askAll("full " + seed + ", not " + i + ": ");
        }
    }

    private void change(String when) {
        switch (random.nextInt(8)) {
            case 0:
            case 1:
                addDrum(when);
                break;
            case 2:
                addColumn(when);
                break;
            case 3:
                int tol = random.nextInt(14) - 1;
                int stone = random.nextInt(60);
                int ahead = random.nextInt(7);
                same(when + "set", yard.set(tol, stone, ahead), plain.set(tol, stone, ahead));
                break;
            case 4:
                int item = random.nextInt(14) - 2;
                int at = somePlace();
                same(when + "hand", yard.hand(at, item), plain.hand(at, item));
                break;
            case 5:
                int free = somePlace();
                same(when + "hand nothing", yard.hand(free, -1), plain.hand(free, -1));
                break;
            default:
                int place = somePlace();
                int drum = someDrum();
                boolean is = random.nextInt(3) > 0;
                same(when + "not", yard.not(place, drum, is), plain.not(place, drum, is));
        }
    }

    private void addDrum(String when) {
        if (plain.count(0) >= mostDrums) {
            return;
        }
        int below = 500 + 10 * random.nextInt(4);
        int above = 500 + 10 * random.nextInt(4);
        int doubt = random.nextInt(6) - 1;
        int height = random.nextInt(50);
        same(when + "measure", yard.measure(below, above, doubt, height),
            plain.measure(below, above, doubt, height));
        int flutes = 20 * random.nextInt(3) - (random.nextInt(9) == 0 ? 1 : 0);
        int holesBelow = HOLES[random.nextInt(HOLES.length)];
        int holesAbove = HOLES[random.nextInt(HOLES.length)];
        int weight = random.nextInt(40);
        int strength = random.nextInt(90) - 1;
        same(when + "drum", yard.drum(flutes, holesBelow, holesAbove, weight, strength),
            plain.drum(flutes, holesBelow, holesAbove, weight, strength));
    }

    private void addColumn(String when) {
        int size = random.nextInt(7);
        if (plain.count(2) + size > mostPlaces) {
            return;
        }
        int foot = someWidth();
        int head = someWidth();
        same(when + "column", yard.column(size, foot, head), plain.column(size, foot, head));
    }

    private int someWidth() {
        return random.nextInt(2) == 0 ? 0 : 490 + 10 * random.nextInt(5);
    }

    private int somePlace() {
        return random.nextInt(mostPlaces + 2) - 1;
    }

    private int someDrum() {
        return random.nextInt(mostDrums + 2) - 1;
    }

    private void ask(String when) {
        int drum = someDrum();
        int place = somePlace();
        int what = random.nextInt(12) - 1;
        same(when + "least", yard.least(), plain.least());
        same(when + "ways", yard.ways(), plain.ways());
        same(when + "cracked", yard.cracked(), plain.cracked());
        askOfPlace(when, place);
        askOfDrum(when, drum);
        same(when + "tall", yard.tall(place), plain.tall(place));
        same(when + "fits", yard.fits(drum, place), plain.fits(drum, place));
        same(when + "turn", yard.turn(drum, place), plain.turn(drum, place));
        same(when + "place", yard.place(place, what), plain.place(place, what));
        same(when + "count", yard.count(what), plain.count(what));
        askTold(when, drum, what);
    }

    private void askAll(String when) {
        same(when + "least", yard.least(), plain.least());
        same(when + "ways", yard.ways(), plain.ways());
        same(when + "cracked", yard.cracked(), plain.cracked());
        for (int i = -1; i <= 10; i++) {
            askOfPlace(when, i);
            askOfDrum(when, i);
            same(when + "tall", yard.tall(i), plain.tall(i));
        }
    }

    private void askOfPlace(String when, int place) {
        same(when + "first(" + place + ")", yard.first(place), plain.first(place));
        same(when + "setting(" + place + ")", yard.setting(place), plain.setting(place));
    }

    private void askOfDrum(String when, int drum) {
        same(when + "sure(" + drum + ")", yard.sure(drum), plain.sure(drum));
        same(when + "open(" + drum + ")", yard.open(drum), plain.open(drum));
        same(when + "bears(" + drum + ")", yard.bears(drum), plain.bears(drum));
    }

    private void askTold(String when, int drum, int what) {
        long got = Long.MIN_VALUE;
        long want = Long.MIN_VALUE;
        try {
            got = yard.told(drum, what);
        } catch (NoSuchElementException e) {
            got = Long.MAX_VALUE;
        }
        try {
            want = plain.told(drum, what);
        } catch (NoSuchElementException e) {
            want = Long.MAX_VALUE;
        }
        same(when + "told(" + drum + ", " + what + ")", got, want);
    }

    private static void same(String call, long got, long want) {
        DUE.is(call, got, want);
    }

    private static void same(String call, boolean got, boolean want) {
        DUE.is(call, got ? 1 : 0, want ? 1 : 0);
    }
}
