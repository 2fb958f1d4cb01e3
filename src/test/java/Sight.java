import java.util.ArrayList;
import java.util.List;
import java.util.NoSuchElementException;

/** All that can be asked of a yard, as lines of call and answer: at most 425 of its 512 calls. */
final class Sight {
    static final long THREW = Long.MIN_VALUE;

    private final DrumYard yard;
    private final int drums;
    private final int columns;
    private final int places;
    private final List<String> lines = new ArrayList<>();

    private Sight(DrumYard yard) {
        this.yard = yard;
        drums = yard.count(0);
        columns = yard.count(1);
        places = yard.count(2);
    }

    /**
     * What the questions tell, and then what shows only by going on: the NOTs that were told, what
     * was measured last, and what the next drum and place begin with. It uses the yard up.
     */
    static List<String> of(DrumYard yard) {
        Sight sight = new Sight(yard);
        sight.seeDrums();
        sight.seeColumns();
        sight.seePlaces();
        sight.seeWays();
        sight.goOn();
        return sight.lines;
    }

    static long told(DrumYard yard, int drum, int what) {
        try {
            return yard.told(drum, what);
        } catch (NoSuchElementException e) {
            return THREW;
        }
    }

    private void see(String call, long answer) {
        lines.add(call + ": " + answer);
    }

    private void seeDrums() {
        for (int drum = 0; drum < drums; drum++) {
            seeFacts(drum);
            for (int other = 0; other < drums; other++) {
                see("turn(" + drum + ", " + other + ")", yard.turn(drum, other));
            }
            see("sure(" + drum + ")", yard.sure(drum));
            see("open(" + drum + ")", yard.open(drum));
            see("bears(" + drum + ")", yard.bears(drum));
        }
    }

    private void seeFacts(int drum) {
        for (int what = 0; what <= 8; what++) {
            see("told(" + drum + ", " + what + ")", told(yard, drum, what));
        }
    }

    private void seeColumns() {
        for (int column = 0; column < columns; column++) {
            for (int drum = 0; drum < drums; drum++) {
                see("fits(" + drum + ", " + column + ")", yard.fits(drum, column));
            }
            see("tall(" + column + ")", yard.tall(column));
        }
    }

    private void seePlaces() {
        for (int place = 0; place < places; place++) {
            for (int what = 0; what <= 2; what++) {
                see("place(" + place + ", " + what + ")", yard.place(place, what));
            }
            see("first(" + place + ")", yard.first(place));
            see("setting(" + place + ")", yard.setting(place));
        }
    }

    private void seeWays() {
        see("least()", yard.least());
        see("ways()", yard.ways());
        see("cracked()", yard.cracked());
        for (int what = 0; what <= 4; what++) {
            see("count(" + what + ")", yard.count(what));
        }
    }

    private void goOn() {
        int drum = yard.drum(0, 0, 0, 1, 1);
        see("drum(0, 0, 0, 1, 1)", drum);
        if (drum != DrumYard.NONE) {
            seeFacts(drum);
        }
        see("column(1, 0, 0)", yard.column(1, 0, 0));
        int placesNow = yard.count(2);
        int drumsNow = yard.count(0);
        for (int place = 0; place < placesNow; place++) {
            see("place(" + place + ", 2)", yard.place(place, 2));
            for (int one = 0; one < drumsNow; one++) {
                see("not(" + place + ", " + one + ", true)", yard.not(place, one, true) ? 1 : 0);
            }
        }
    }
}
