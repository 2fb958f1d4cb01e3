/** Yards that several tests begin with. */
final class Yards {
    static final int LOW = Integer.MIN_VALUE;
    static final int HIGH = Integer.MAX_VALUE;

    /** What told() tells of the drum that made() makes, if nothing else is asked of it. */
    private static final int[] PLAIN_FACTS = {500, 500, 0, 10, 0, 0, 0, 1, 0};

    private Yards() {
    }

    /** A drum without doubt, flutes and holes. */
    static int plain(DrumYard yard, int below, int above, int height, int weight, int strength) {
        yard.measure(below, above, 0, height);
        return yard.drum(0, 0, 0, weight, strength);
    }

    /** A drum of the same widths and no doubt, of which flutes and holes matter alone. */
    static int fluted(DrumYard yard, int flutes, int holesBelow, int holesAbove) {
        yard.measure(500, 500, 0, 10);
        return yard.drum(flutes, holesBelow, holesAbove, 1, 1);
    }

    /** measure() with one of its four numbers given, the others plain. */
    static boolean measured(DrumYard yard, int what, int value) {
        int[] facts = factsWith(what, value);
        return yard.measure(facts[0], facts[1], facts[2], facts[3]);
    }

    /** drum() with one of its five numbers given, by its number in told(), the others plain. */
    static int made(DrumYard yard, int what, int value) {
        int[] facts = factsWith(what, value);
        return yard.drum(facts[4], facts[5], facts[6], facts[7], facts[8]);
    }

    private static int[] factsWith(int what, int value) {
        int[] facts = PLAIN_FACTS.clone();
        facts[what] = value;
        return facts;
    }

    /** Drums that all lie on one another. */
    static DrumYard ofAlike(int drums) {
        DrumYard yard = new DrumYard();
        for (int i = 0; i < drums; i++) {
            plain(yard, 500, 500, 100, 10, 1000);
        }
        return yard;
    }

    /** Drums 0, 1, 2 of which each lies on the one before it and on no other. */
    static DrumYard ofThree() {
        DrumYard yard = new DrumYard();
        plain(yard, 1000, 900, 400, 100, 1000);
        plain(yard, 900, 800, 300, 80, 50);
        plain(yard, 800, 700, 200, 60, 0);
        return yard;
    }

    /** Columns of new stone alone. */
    static DrumYard ofColumns(int... sizes) {
        DrumYard yard = new DrumYard();
        for (int size : sizes) {
            yard.column(size, 0, 0);
        }
        return yard;
    }

    /**
     * Five drums, columns of three places and of two, each kind of word told, a measure waiting:
     * every number of it shows in some answer, and there is room for more of all.
     */
    static DrumYard busy() {
        DrumYard yard = new DrumYard();
        yard.set(6, 40, 2);
        yard.measure(1000, 900, 0, 400);
        yard.drum(20, 3, 5, 100, 30);
        yard.measure(906, 800, 0, 300);
        yard.drum(20, 10, 257, 80, 1000);
        yard.measure(800, 700, 2, 200);
        yard.drum(0, 514, 0, 60, 0);
        yard.measure(700, 694, 3, 100);
        yard.drum(24, 1, 0, 50, 9);
        yard.measure(1006, 700, 0, 51);
        yard.drum(0, 0, 65535, 20, 100000);
        yard.column(3, 1000, 700);
        yard.column(2, 0, 694);
        yard.hand(2, DrumYard.NEW);
        yard.hand(4, 3);
        yard.not(0, 4, true);
        yard.not(3, 0, true);
        yard.measure(640, 650, 7, 77);
        return yard;
    }

    /** The same, but two words that no way can keep. */
    static DrumYard withoutWay() {
        DrumYard yard = busy();
        yard.hand(1, 3);
        return yard;
    }

    /** Ten drums, four columns, eight places, and a measure for which there is no drum left. */
    static DrumYard full() {
        DrumYard yard = ofAlike(10);
        for (int column = 0; column < 4; column++) {
            yard.column(2, 0, 0);
        }
        yard.hand(0, 9);
        yard.hand(7, DrumYard.NEW);
        yard.not(6, 0, true);
        yard.measure(640, 650, 7, 77);
        return yard;
    }
}
