import java.util.ArrayList;
import java.util.List;

/** All that an object's calls can tell of it, in one row; the looking itself changes the object, so it is looked at once. */
final class Seen {
    private static final int REFUSALS = 5;
    private static final int SHELVES = 8;
    private static final int[] ELEMENTS = {0, 1, 2, 6, 39};

    private final TwoWhistlesAndFiveEwes x;
    private final List<Long> row = new ArrayList<>();

    private Seen(TwoWhistlesAndFiveEwes x) {
        this.x = x;
    }

    /** The first five are the REFUSALS, from -2 on; some 230 calls in all. */
    static List<Long> of(TwoWhistlesAndFiveEwes x) {
        Seen seen = new Seen(x);
        for (int what = 12; what < 12 + REFUSALS; what++) {
            seen.row.add((long) x.status(what));
        }
        seen.addWalls();
        seen.addShelves();
        seen.addHill();
        // THE TAPE can be seen by reading it alone, the latest COMMAND and SEED by an EVENING, the image by going back
        seen.row.add((long) x.hill());
        seen.addHill();
        seen.row.add((long) x.evening(2));
        seen.addHill();
        seen.row.add((long) x.back());
        seen.addHill();
        return seen.row;
    }

    private void addHill() {
        for (int what = 0; what < 12; what++) {
            row.add((long) x.status(what));
        }
        int ewes = x.status(0);
        for (int ewe = 0; ewe < ewes; ewe++) {
            for (int what = 0; what < 3; what++) {
                row.add((long) x.eweOf(ewe, what));
            }
        }
    }

    private void addShelves() {
        for (int s = 0; s < SHELVES; s++) {
            row.add((long) x.holds(s));
            for (int i : ELEMENTS) {
                row.add(x.element(s, i));
            }
        }
    }

    private void addWalls() {
        int side = x.status(1);
        for (int r = 0; r < side; r++) {
            for (int c = 0; c < side; c++) {
                row.add((long) x.hasWall(10 * r + c));
            }
        }
    }
}
