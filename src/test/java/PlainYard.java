import java.util.ArrayList;
import java.util.List;

/** The document's words done the slow way: every WAY is written out and looked at. */
final class PlainYard {
    private static final int NONE = -1;
    private static final int NEW = 10;

    private final List<int[]> drums = new ArrayList<>();
    private final List<int[]> columns = new ArrayList<>();
    private final List<int[]> places = new ArrayList<>();
    private final List<int[]> barred = new ArrayList<>();
    private int[] measured = null;
    private int tol = 5;
    private int stone = 500;
    private int ahead = 1;
    private List<int[]> best = null;

    boolean measure(int below, int above, int doubt, int height) {
        if (out(below, 100, 3000) || out(above, 100, 3000) || out(doubt, 0, 50) || out(height, 1, 2000)) {
            return false;
        }
        measured = new int[] {below, above, doubt, height};
        return true;
    }

    int drum(int flutes, int below, int above, int weight, int strength) {
        if (measured == null || drums.size() == 10 || out(flutes, 0, 40) || out(below, 0, 65535)
                || out(above, 0, 65535) || out(weight, 1, 10000) || out(strength, 0, 100000)) {
            return NONE;
        }
        drums.add(new int[] {measured[0], measured[1], measured[2], measured[3],
            flutes, below, above, weight, strength});
        measured = null;
        best = null;
        return drums.size() - 1;
    }

    boolean set(int newTol, int newStone, int newAhead) {
        if (out(newTol, 0, 50) || out(newStone, 1, 10000) || out(newAhead, 1, 5)) {
            return false;
        }
        tol = newTol;
        stone = newStone;
        ahead = newAhead;
        best = null;
        return true;
    }

    int column(int size, int foot, int head) {
        if (out(size, 1, 5) || (foot != 0 && out(foot, 100, 3000)) || (head != 0 && out(head, 100, 3000))
                || columns.size() == 4 || places.size() + size > 8) {
            return NONE;
        }
        for (int i = 0; i < size; i++) {
            places.add(new int[] {columns.size(), i, NONE});
        }
        columns.add(new int[] {size, foot, head});
        best = null;
        return columns.size() - 1;
    }

    int turn(int above, int below) {
        if (out(above, 0, drums.size() - 1) || out(below, 0, drums.size() - 1) || above == below) {
            return NONE;
        }
        int[] a = drums.get(above);
        int[] b = drums.get(below);
        if (Math.abs(a[0] - b[1]) > a[2] + b[2] + tol || (a[4] != b[4] && a[4] != 0 && b[4] != 0)) {
            return NONE;
        }
        if (a[5] == 0 || b[6] == 0) {
            return 0;
        }
        for (int r = 0; r < 16; r++) {
            int moved = 0;
            for (int d = 0; d < 16; d++) {
                if ((a[5] & (1 << d)) != 0) {
                    moved += 1 << ((d + r) % 16);
                }
            }
            if (moved == b[6]) {
                return r;
            }
        }
        return NONE;
    }

    int fits(int drum, int column) {
        if (out(drum, 0, drums.size() - 1) || out(column, 0, columns.size() - 1)) {
            return NONE;
        }
        int[] d = drums.get(drum);
        int[] c = columns.get(column);
        boolean foot = c[1] == 0 || Math.abs(d[0] - c[1]) <= d[2] + tol;
        boolean head = c[2] == 0 || Math.abs(d[1] - c[2]) <= d[2] + tol;
        return (foot ? 1 : 0) + (head ? 2 : 0);
    }

    boolean hand(int place, int drum) {
        if (out(place, 0, places.size() - 1) || (drum != NONE && drum != NEW && out(drum, 0, drums.size() - 1))) {
            return false;
        }
        places.get(place)[2] = drum;
        best = null;
        return true;
    }

    boolean not(int place, int drum, boolean is) {
        if (out(place, 0, places.size() - 1) || out(drum, 0, drums.size() - 1) || isBarred(place, drum) == is) {
            return false;
        }
        if (is) {
            barred.add(new int[] {place, drum});
        } else {
            barred.removeIf(pair -> pair[0] == place && pair[1] == drum);
        }
        best = null;
        return true;
    }

    int least() {
        return best().isEmpty() ? NONE : newIn(best().get(0));
    }

    long ways() {
        return best().size();
    }

    /** Ways are written out with lower drums first, new stone last: the first comes first. */
    int first(int place) {
        return out(place, 0, places.size() - 1) || best().isEmpty() ? NONE : best().get(0)[place];
    }

    int sure(int drum) {
        for (int p = 0; p < places.size() && !out(drum, 0, drums.size() - 1); p++) {
            if (!best().isEmpty() && timesAt(p, drum) == best().size()) {
                return p;
            }
        }
        return NONE;
    }

    int open(int drum) {
        int bits = 0;
        for (int p = 0; p < places.size() && !out(drum, 0, drums.size() - 1); p++) {
            if (timesAt(p, drum) > 0) {
                bits += 1 << p;
            }
        }
        return bits;
    }

    int bears(int drum) {
        if (out(drum, 0, drums.size() - 1)) {
            return NONE;
        }
        int sum = NONE;
        for (int p = 0; p < places.size(); p++) {
            boolean isIn = sum != NONE && places.get(p)[1] > 0;
            if (sum != NONE && !isIn) {
                return sum;
            }
            if (isIn) {
                sum += first(p) == NEW ? stone : drums.get(first(p))[7];
            } else if (first(p) == drum) {
                sum = 0;
            }
        }
        return sum;
    }

    int cracked() {
        int bits = 0;
        for (int d = 0; d < drums.size(); d++) {
            if (bears(d) > drums.get(d)[8]) {
                bits += 1 << d;
            }
        }
        return bits;
    }

    int setting(int i) {
        List<Integer> order = new ArrayList<>();
        int[] has = new int[columns.size()];
        while (order.size() < places.size()) {
            int next = nextColumn(has);
            int start = 0;
            for (int c = 0; c < next; c++) {
                start += columns.get(c)[0];
            }
            order.add(start + has[next]);
            has[next]++;
        }
        return best().isEmpty() || out(i, 0, order.size() - 1) ? NONE : order.get(i);
    }

    private int nextColumn(int[] has) {
        int fewest = NONE;
        for (int c = 0; c < has.length; c++) {
            if (isFull(has, c)) {
                continue;
            }
            boolean may = true;
            for (int n = c - 1; n <= c + 1; n += 2) {
                if (n >= 0 && n < has.length && !isFull(has, n) && has[c] + 1 - has[n] > ahead) {
                    may = false;
                }
            }
            if (may) {
                return c;
            }
            if (fewest == NONE || has[c] < has[fewest]) {
                fewest = c;
            }
        }
        return fewest;
    }

    private boolean isFull(int[] has, int column) {
        return has[column] == columns.get(column)[0];
    }

    int tall(int column) {
        if (out(column, 0, columns.size() - 1) || best().isEmpty()) {
            return NONE;
        }
        int all = 0;
        for (int[] drum : drums) {
            all += drum[3];
        }
        int sum = 0;
        for (int p = 0; p < places.size(); p++) {
            if (places.get(p)[0] == column && first(p) != NEW) {
                sum += drums.get(first(p))[3];
            } else if (places.get(p)[0] == column && !drums.isEmpty()) {
                sum += all / drums.size();
            }
        }
        return sum;
    }

    int told(int drum, int what) {
        if (out(drum, 0, drums.size() - 1) || out(what, 0, 8)) {
            throw new java.util.NoSuchElementException();
        }
        return drums.get(drum)[what];
    }

    int place(int place, int what) {
        return out(place, 0, places.size() - 1) || out(what, 0, 2) ? NONE : places.get(place)[what];
    }

    int count(int what) {
        int pairs = 0;
        for (int a = 0; a < drums.size(); a++) {
            for (int b = 0; b < drums.size(); b++) {
                pairs += turn(a, b) == NONE ? 0 : 1;
            }
        }
        int words = 0;
        for (int[] place : places) {
            words += place[2] == NONE ? 0 : 1;
        }
        int[] answers = {drums.size(), columns.size(), places.size(), pairs, words};
        return out(what, 0, 4) ? NONE : answers[what];
    }

    private static boolean out(int value, int low, int high) {
        return value < low || value > high;
    }

    private boolean isBarred(int place, int drum) {
        for (int[] pair : barred) {
            if (pair[0] == place && pair[1] == drum) {
                return true;
            }
        }
        return false;
    }

    private static int newIn(int[] way) {
        int sum = 0;
        for (int item : way) {
            sum += item == NEW ? 1 : 0;
        }
        return sum;
    }

    private long timesAt(int place, int drum) {
        long times = 0;
        for (int[] way : best()) {
            times += way[place] == drum ? 1 : 0;
        }
        return times;
    }

    private List<int[]> best() {
        if (best == null) {
            best = new ArrayList<>();
            write(new int[places.size()], 0);
        }
        return best;
    }

    private void write(int[] way, int filled) {
        if (filled == way.length) {
            int fewer = best.isEmpty() ? 1 : newIn(best.get(0)) - newIn(way);
            if (fewer > 0) {
                best.clear();
            }
            if (fewer >= 0) {
                best.add(way.clone());
            }
            return;
        }
        for (int item = 0; item <= NEW; item++) {
            if (item < drums.size() || item == NEW) {
                way[filled] = item;
                if (keeps(way, filled)) {
                    write(way, filled + 1);
                }
            }
        }
    }

    private boolean keeps(int[] way, int place) {
        int item = way[place];
        int[] at = places.get(place);
        if (at[2] != NONE && at[2] != item) {
            return false;
        }
        if (item == NEW) {
            return true;
        }
        for (int p = 0; p < place; p++) {
            if (way[p] == item) {
                return false;
            }
        }
        int fit = fits(item, at[0]);
        boolean foot = at[1] > 0 || (fit & 1) != 0;
        boolean head = at[1] < columns.get(at[0])[0] - 1 || (fit & 2) != 0;
        boolean lies = at[1] == 0 || way[place - 1] == NEW || turn(item, way[place - 1]) != NONE;
        return foot && head && lies && !isBarred(place, item);
    }
}
