/** Promises 1 to 8: a new object and SHELVES. */
public final class ShelvesTest {
    private static final Due DUE = new Due("ShelvesTest");

    private static TwoWhistlesAndFiveEwes fresh() {
        return new TwoWhistlesAndFiveEwes();
    }

    private static void newObject() {
        TwoWhistlesAndFiveEwes other = fresh();
        other.side(7);
        other.wall(33, true);
        other.ewe(0, 0, 1);
        other.row(0, 0, 1);
        other.feed(1);
        other.seed(9);
        TwoWhistlesAndFiveEwes x = fresh();
        long[] first = {0, 6, 0, 55, 2, 0, 0, 0, 0, 0, 1, 0, 0, 0, 0, 0, 0};
        for (int what = 0; what < first.length; what++) {
            DUE.is("1: status(" + what + ")", x.status(what), first[what]);
        }
        for (int s = 0; s < 8; s++) {
            DUE.is("1: holds(" + s + ")", x.holds(s), -1);
        }
        DUE.is("1: hasWall(33)", x.hasWall(33), 0);
        DUE.is("1: NONE", TwoWhistlesAndFiveEwes.NONE, -1);
    }

    private static void row() {
        TwoWhistlesAndFiveEwes x = fresh();
        DUE.is("2: row(0, 0, 0)", x.row(0, 0, 0), 1);
        DUE.is("2: row(7, 4, 40)", x.row(7, 4, 40), 1);
        DUE.is("2: holds(7)", x.holds(7), 4);
        DUE.is("2: set(7, 39, 1)", x.set(7, 39, 1), 1);
        int[][] bad = {{-1, 0, 0}, {8, 0, 0}, {0, -1, 0}, {0, 5, 0}, {0, 0, -1}, {0, 0, 41}, {Integer.MIN_VALUE, 0, 0},
            {7, 0, Integer.MAX_VALUE}, {7, Integer.MAX_VALUE, 3}};
        for (int[] b : bad) {
            DUE.is("2: row(" + b[0] + ", " + b[1] + ", " + b[2] + ")", x.row(b[0], b[1], b[2]), -2);
        }
        DUE.is("2: kept behind refusals", x.element(7, 39), 1);
        DUE.is("2: refusals", x.status(12), bad.length);
        DUE.is("2: anew", x.row(7, 3, 40), 1);
        DUE.is("2: nothing of the old ROW", x.element(7, 39), 0);
        x.row(7, 3, 1);
        x.row(7, 3, 40);
        DUE.is("2: nothing of the ROW ahead of that", x.element(7, 39), 0);
    }

    private static void set() {
        TwoWhistlesAndFiveEwes x = fresh();
        long[][] kept = {{0, 127, 127}, {0, 128, -128}, {0, 256, 0}, {0, -129, 127}, {1, 32768, -32768}, {1, 65536 + 7, 7},
            {2, 1L << 31, Integer.MIN_VALUE}, {2, (1L << 32) + 3, 3}, {3, Long.MIN_VALUE, Long.MIN_VALUE},
            {3, Long.MAX_VALUE, Long.MAX_VALUE}, {4, 0, 0}, {4, 1, 1}, {4, 256, 1}, {4, 1L << 32, 1}, {4, -1, 1}};
        for (long[] k : kept) {
            x.row(3, (int) k[0], 2);
            DUE.is("3: set(3, 1, " + k[1] + ")", x.set(3, 1, k[1]), 1);
            DUE.is("3: sort " + k[0] + " keeps of " + k[1], x.element(3, 1), k[2]);
            DUE.is("3: the other element", x.element(3, 0), 0);
        }
        DUE.is("3: set(3, 2, 0)", x.set(3, 2, 0), -2);
        DUE.is("3: set(3, -1, 0)", x.set(3, -1, 0), -2);
        DUE.is("3: set(8, 0, 0)", x.set(8, 0, 0), -2);
        DUE.is("3: set(-1, 0, 0)", x.set(-1, 0, 0), -2);
        DUE.is("3: NOTHING ahead of BAD i", x.set(0, -1, 0), -4);
        x.ewe(0, 0, 1);
        x.show(0, 0);
        DUE.is("3: OTHER ahead of BAD i", x.set(0, -1, 0), -3);
        x.row(1, 0, 0);
        DUE.is("3: no elements", x.set(1, 0, 0), -2);
    }

    private static void copy() {
        TwoWhistlesAndFiveEwes x = fresh();
        Due.fill(x, 0, 2, 1, 2, 3, 4, 5);
        x.row(1, 2, 3);
        DUE.is("4: copy(0, 1, 1, 0, 3)", x.copy(0, 1, 1, 0, 3), 3);
        DUE.is("4: its first", x.element(1, 0), 2);
        DUE.is("4: its last", x.element(1, 2), 4);
        DUE.is("4: onto itself, up", x.copy(0, 0, 0, 1, 4), 4);
        long[] up = {1, 1, 2, 3, 4};
        for (int i = 0; i < 5; i++) {
            DUE.is("4: as they were, up " + i, x.element(0, i), up[i]);
        }
        DUE.is("4: onto itself, down", x.copy(0, 0, 1, 0, 4), 4);
        long[] down = {1, 2, 3, 4, 4};
        for (int i = 0; i < 5; i++) {
            DUE.is("4: as they were, down " + i, x.element(0, i), down[i]);
        }
        DUE.is("4: none, at the ends", x.copy(0, 1, 5, 3, 0), 0);
        int[][] bad = {{0, 1, -1, 0, 1}, {0, 1, 0, -1, 1}, {0, 1, 0, 0, -1}, {0, 1, 3, 0, 3}, {0, 1, 0, 1, 3}, {0, 1, 6, 0, 0},
            {0, 1, 0, 4, 0}, {0, 1, Integer.MAX_VALUE, 0, 1}, {0, 1, 0, Integer.MAX_VALUE, 2}, {0, 1, 1, 1, Integer.MAX_VALUE},
            {8, 1, 0, 0, 1}, {0, -1, 0, 0, 1}, {0, 8, 0, 0, 1}, {-1, 2, 0, 0, 1}};
        for (int[] b : bad) {
            DUE.is("4: bad copy of " + b[4] + " from " + b[0] + " to " + b[1], x.copy(b[0], b[1], b[2], b[3], b[4]), -2);
        }
        x.row(2, 3, 5);
        x.ewe(0, 0, 1);
        x.show(3, 0);
        DUE.is("4: two SORTS, ahead of BAD", x.copy(0, 2, -1, 0, 1), -3);
        DUE.is("4: from a EWE", x.copy(3, 0, 0, 0, 1), -3);
        DUE.is("4: to a EWE", x.copy(0, 3, 0, 0, 1), -3);
        DUE.is("4: from NOTHING to a EWE", x.copy(7, 3, 0, 0, 1), -3);
        DUE.is("4: from a EWE to NOTHING", x.copy(3, 7, 0, 0, 1), -3);
        DUE.is("4: from NOTHING", x.copy(7, 0, -1, 0, 1), -4);
        DUE.is("4: to NOTHING", x.copy(0, 7, -1, 0, 1), -4);
        DUE.is("4: nothing came", x.element(2, 0), 0);
    }

    private static void element() {
        TwoWhistlesAndFiveEwes x = fresh();
        Due.fill(x, 0, 3, 9, Long.MIN_VALUE);
        x.ewe(0, 7, 1);
        x.show(1, 0);
        DUE.is("5: element(0, 0)", x.element(0, 0), 9);
        DUE.is("5: element(0, 1)", x.element(0, 1), Long.MIN_VALUE);
        int[][] none = {{0, 2}, {0, -1}, {1, 0}, {2, 0}, {8, 0}, {-1, 0}, {0, Integer.MAX_VALUE}, {Integer.MIN_VALUE, 0}};
        for (int[] n : none) {
            DUE.is("5: element(" + n[0] + ", " + n[1] + ")", x.element(n[0], n[1]), 0);
        }
        for (int what = 12; what <= 16; what++) {
            DUE.is("5: nothing refused, status(" + what + ")", x.status(what), 0);
        }
    }

    private static void holdsAndShow() {
        TwoWhistlesAndFiveEwes x = fresh();
        for (int sort = 0; sort < 5; sort++) {
            x.row(sort, sort, 1);
            DUE.is("6: holds a ROW", x.holds(sort), sort);
        }
        x.ewe(0, 0, 1);
        x.ewe(5, 0, 1);
        DUE.is("7: show(2, 1)", x.show(2, 1), 1);
        DUE.is("6: holds EWE 1", x.holds(2), 11);
        DUE.is("7: show(7, 0)", x.show(7, 0), 1);
        DUE.is("6: holds EWE 0", x.holds(7), 10);
        DUE.is("6: SHELVES filled", x.status(11), 6);
        DUE.is("7: show(7, NONE)", x.show(7, -1), 1);
        DUE.is("7: show(0, NONE)", x.show(0, -1), 1);
        DUE.is("6: holds NOTHING", x.holds(7), -1);
        DUE.is("6: no ROW any more", x.holds(0), -1);
        DUE.is("6: SHELVES filled", x.status(11), 4);
        DUE.is("6: holds(8)", x.holds(8), -1);
        DUE.is("6: holds(-1)", x.holds(-1), -1);
        DUE.is("7: show(8, 0)", x.show(8, 0), -2);
        DUE.is("7: show(-1, -1)", x.show(-1, -1), -2);
        DUE.is("7: show(1, 2)", x.show(1, 2), -2);
        DUE.is("7: show(1, -2)", x.show(1, -2), -2);
        DUE.is("7: kept", x.holds(1), 1);
        DUE.is("7: refusals", x.status(12), 4);
    }

    private static void says() {
        TwoWhistlesAndFiveEwes x = fresh();
        x.ewe(4, 7, 52);
        x.show(0, 0);
        long[] stubborn = {7, -3, 42, -3, 42, -3};
        for (int kind = 0; kind < 6; kind++) {
            DUE.is("8: a STUBBORN says as " + kind, x.says(0, kind), stubborn[kind]);
        }
        x.dog(54);
        DUE.is("8: it stares", x.says(0, 2), 52);
        x.move(0, 0);
        x.dog(2);
        DUE.is("8: it is IN", x.says(0, 4), 0);
        x.ewe(3, 8, 33);
        x.show(1, 1);
        x.dog(31);
        long[] wild = {8, 3, -3, 3, -3, -3};
        for (int kind = 0; kind < 6; kind++) {
            DUE.is("8: a WILD says as " + kind, x.says(1, kind), wild[kind]);
        }
        x.ewe(5, 2, 33);
        x.show(2, 2);
        long[] leader = {2, -3, -3, -3, -3, 23};
        for (int kind = 0; kind < 6; kind++) {
            DUE.is("8: a LEADER says as " + kind, x.says(2, kind), leader[kind]);
        }
        x.ewe(0, 6, 33);
        x.show(3, 3);
        DUE.is("8: a EWE says its a", x.says(3, 0), 6);
        DUE.is("8: a EWE is no MOOR", x.says(3, 1), -3);
        DUE.is("8: nothing went", x.eweOf(1, 2), 33);
        DUE.is("8: BAD SHELF", x.says(8, 0), -2);
        DUE.is("8: BAD SHELF", x.says(-1, 0), -2);
        DUE.is("8: BAD KIND of NOTHING", x.says(7, 6), -2);
        DUE.is("8: BAD KIND", x.says(0, -1), -2);
        DUE.is("8: NOTHING", x.says(7, 0), -4);
        x.row(6, 0, 1);
        DUE.is("8: a ROW", x.says(6, 0), -3);
    }

    public static void main(String[] args) {
        newObject();
        row();
        set();
        copy();
        element();
        holdsAndShow();
        says();
        DUE.end();
    }
}
