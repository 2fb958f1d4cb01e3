/** Yards that several tests begin with. */
final class Yards {
    static final int LOW = Integer.MIN_VALUE;
    static final int HIGH = Integer.MAX_VALUE;

    private Yards() {
    }

    /** A drum without doubt, flutes and holes. */
    static int plain(DrumYard yard, int below, int above, int height, int weight, int strength) {
        yard.measure(below, above, 0, height);
        return yard.drum(0, 0, 0, weight, strength);
    }

    /** A drum of the same widths and no doubt, of which flutes and holes matter alone. */
    static int fluted(DrumYard yard, int flutes, int holesBelow, int holesAbove) {
        yard.measure(500, 500, 0, 10);
        return yard.drum(flutes, holesBelow, holesAbove, 1, 1);
    }

    /** Drums that all lie on one another. */
    static DrumYard ofAlike(int drums) {
        DrumYard yard = new DrumYard();
        for (int i = 0; i < drums; i++) {
            plain(yard, 500, 500, 100, 10, 1000);
        }
        return yard;
    }

    /** Drums 0, 1, 2 of which each lies on the one before it and on no other. */
    static DrumYard ofThree() {
        DrumYard yard = new DrumYard();
        plain(yard, 1000, 900, 400, 100, 1000);
        plain(yard, 900, 800, 300, 80, 50);
        plain(yard, 800, 700, 200, 60, 0);
        return yard;
    }
}
