/** The edges of promises 21 to 23, 29 to 31 and 39: what COMMANDS and CELLS can do at best. */
public final class SearchEdgesTest {
    private static final Due DUE = new Due("SearchEdgesTest");
    private static final int MAX = Integer.MAX_VALUE;

    /** 21: "by m (0 to 6) COMMANDS at most": just as many as it takes, and one fewer. */
    private static void fewestByM() {
        int[][] starts = {{13, 1}, {14, 1}, {15, 2}, {16, 3}, {26, 4}, {36, 5}, {46, 6}, {56, 7}};
        for (int[] s : starts) {
            TwoWhistlesAndFiveEwes x = Starts.oneEwe(s[0]);
            for (int m = 0; m <= 6; m++) {
                DUE.is("21: THE DOG at " + s[0] + ", by " + m, x.fewest(m, -1), s[1] <= m ? s[1] : -1);
                DUE.is("21: THE DOG at " + s[0] + ", by " + m + ", the last", x.fewest(m, s[1] - 1) == -5 ? 1 : 0, s[1] <= m ? 0 : 1);
                DUE.is("21: THE DOG at " + s[0] + ", by " + m + ", one more", x.fewest(m, s[1]), -5);
            }
            DUE.is("21: by -1", x.fewest(-1, -1), -2);
            DUE.is("21: by 7", x.fewest(7, -1), -2);
        }
    }

    /** 21: "of several the first by rows"; "the i-th COMMAND"; "STUCK: not so many". */
    private static void fewestByRows() {
        int[][] rows = {{46, 1, 1, 1, 3, 3, 3}, {36, 1, 1, 3, 3, 3}, {24, 1, 3}, {42, 1, 1}, {13, 0}, {23, 1}};
        for (int[] r : rows) {
            TwoWhistlesAndFiveEwes x = Starts.oneEwe(r[0]);
            for (int i = 1; i < r.length; i++) {
                DUE.is("21: THE DOG at " + r[0] + ", COMMAND " + (i - 1), x.fewest(6, i - 1), r[i]);
            }
            for (int i : new int[] {r.length - 1, 6, 7, 40, MAX}) {
                DUE.is("21: THE DOG at " + r[0] + ", no COMMAND " + i, x.fewest(6, i), -5);
            }
            DUE.is("21: less than NONE", x.fewest(6, -2), -2);
        }
        TwoWhistlesAndFiveEwes x = Starts.threeTurns();
        DUE.is("21: three stays", x.fewest(6, -1), 3);
        for (int i = 0; i < 3; i++) {
            DUE.is("21: stay, COMMAND " + i, x.fewest(6, i), 0);
        }
        x.wall(1, true);
        x.wall(10, true);
        DUE.is("21: shut out", x.fewest(6, -1), -1);
    }

    /** 21: "so that all EWES are IN": none, all, all but one. */
    private static void fewestOfAll() {
        TwoWhistlesAndFiveEwes x = Starts.oneEwe(13);
        for (int e = 1; e < 5; e++) {
            x.ewe(e, 0, 0);
            DUE.is("21: one of " + (e + 1) + " isn't IN", x.fewest(6, -1), 1);
        }
        x.move(4, 66);
        DUE.is("21: one can't come IN", x.fewest(6, -1), -1);
        DUE.is("21: one can't come IN, COMMAND 0", x.fewest(6, 0), -5);
        x.move(4, 0);
        x.move(0, 0);
        for (int m = 0; m <= 6; m++) {
            DUE.is("21: all are IN, by " + m, x.fewest(m, -1), 0);
            DUE.is("21: all are IN, COMMAND 0", x.fewest(m, 0), -5);
            DUE.is("21: no EWES, by " + m, Starts.large(0, 55).fewest(m, -1), 0);
        }
    }

    /** 22: "by just m (0 to 5) COMMANDS that it can do: how many are IN, of several the first by rows"; "(i below m)". */
    private static void mostByM() {
        TwoWhistlesAndFiveEwes x = Starts.threeTurns();
        for (int m = 0; m <= 5; m++) {
            DUE.is("22: by " + m, x.most(m, -1), m >= 3 ? 1 : 0);
            for (int i = 0; i < m; i++) {
                DUE.is("22: by " + m + ", COMMAND " + i, x.most(m, i), 0);
            }
            for (int i : new int[] {m, m + 1, 5, 6, MAX}) {
                DUE.is("22: by " + m + ", no COMMAND " + i, i < m ? -2 : x.most(m, i), -2);
            }
            DUE.is("22: less than NONE", x.most(m, -2), -2);
        }
        DUE.is("22: by 6", x.most(6, -1), -2);
        DUE.is("22: by -1", x.most(-1, -1), -2);
        x = Starts.oneEwe(36);
        int[] row = {1, 1, 3, 3, 3};
        for (int i = 0; i < 5; i++) {
            DUE.is("22: five of five, COMMAND " + i, x.most(5, i), row[i]);
            DUE.is("22: not by four, COMMAND " + i, x.most(4, Math.min(i, 3)), 0);
        }
        x = Starts.oneEwe(24);
        int[][] rows = {{1, 3}, {0, 1, 3}, {0, 0, 1, 3}, {0, 0, 0, 1, 3}};
        for (int[] r : rows) {
            for (int i = 0; i < r.length; i++) {
                DUE.is("22: by just " + r.length + ", COMMAND " + i, x.most(r.length, i), r[i]);
            }
        }
    }

    /** 22: as many as can be, not as soon as can be; none but those that are IN; no EWES. */
    private static void mostOfAll() {
        TwoWhistlesAndFiveEwes x = Starts.oneEwe(14);
        x.ewe(0, 0, 1);
        x.ewe(4, 0, 66);
        DUE.is("22: none by none", x.most(0, -1), 0);
        DUE.is("22: two of three", x.most(1, -1), 2);
        x.ewe(2, 0, 0);
        DUE.is("22: one is IN at first", x.most(0, -1), 1);
        DUE.is("22: three of four", x.most(5, -1), 3);
        x = Starts.large(0, 55);
        for (int m = 0; m <= 5; m++) {
            DUE.is("22: no EWES, by " + m, x.most(m, -1), 0);
        }
        DUE.is("22: no EWES, the first row", x.most(5, 4), 0);
        // if THE DOG stays EWE 0 comes IN, if it goes a ROW less EWE 1, too
        x = Starts.large(0, 24);
        x.ewe(5, 9, 1);
        x.ewe(5, 4, 1);
        DUE.is("22: one by staying, two by a ROW less", x.most(1, -1), 2);
        DUE.is("22: not the first that brings one", x.most(1, 0), 1);
    }

    /** 23: "the CELL (no WALL, not THE PEN) .. of several the first", from CELL 0 to the last one. */
    private static void stands() {
        // an OLD one stares at all CELLS but one
        TwoWhistlesAndFiveEwes x = Starts.onlyOpen(63, 66, 63, 64, 65, 66);
        x.ewe(2, 0, 64);
        DUE.is("23: the last CELL", x.stand(), 66);
        x = Starts.onlyOpen(3, 0, 0, 1, 2, 3);
        x.ewe(2, 0, 2);
        DUE.is("23: CELL 0", x.stand(), 0);
        x = Starts.onlyOpen(3, 0, 0, 1, 2, 3, 66);
        DUE.is("23: no EWES: the first", x.stand(), 0);
        x.dog(1);
        x.wall(0, true);
        DUE.is("23: the first has a WALL", x.stand(), 1);
        x = Starts.onlyOpen(0, 66, 66);
        DUE.is("23: none but its own", x.stand(), 66);
        DUE.is("23: not THE PEN", Starts.large(0, 66).stand(), 1);
        x = Starts.oneEwe(66);
        DUE.is("23: not 4, by which it goes to 11", x.stand(), 11);
        DUE.is("23: nothing changed", x.status(3) * 10 + x.status(5), 660);
    }

    /** 29: "By how few COMMANDS that it can do THE DOG comes to a CELL; NONE". */
    private static void paths() {
        TwoWhistlesAndFiveEwes x = Starts.large(66, 0);
        for (int i = 0; i < 49; i++) {
            int cell = i / 7 * 10 + i % 7;
            DUE.is("29: path(" + cell + ")", x.path(cell), cell == 66 ? -1 : cell / 10 + cell % 10);
        }
        x = Starts.large(0, 66);
        for (int i = 0; i < 49; i++) {
            int cell = i / 7 * 10 + i % 7;
            DUE.is("29: path(" + cell + ") from the last CELL", x.path(cell), cell == 0 ? -1 : 12 - cell / 10 - cell % 10);
        }
        x = Starts.onlyOpen(0, 6, 6, 10, 66, 60);
        for (int cell : new int[] {10, 60, 66, 0, 5, 16}) {
            DUE.is("29: shut in at 6, path(" + cell + ")", x.path(cell), -1);
        }
        DUE.is("29: shut in, its own", x.path(6), 0);
        DUE.is("29: to CELL 0", Starts.large(66, 33).path(0), 6);
        DUE.is("29: to the last CELL", Starts.large(0, 33).path(66), 6);
        DUE.is("30: shut in", x.reach(99), 1);
        x = Starts.large(2, 0);
        x.wall(12, true);
        x.wall(22, true);
        x.wall(32, true);
        DUE.is("29: around THE PEN and WALLS", x.path(3), 11);
        x.wall(42, true);
        x.wall(52, true);
        DUE.is("29: farther around", x.path(3), 15);
        x.wall(62, true);
        DUE.is("29: THE PEN is no way", x.path(3), -1);
        x.ewe(0, 0, 1);
        DUE.is("29: a EWE is in nobody's way", x.path(1), 1);
    }

    /** The longest way that there can be on a hill: each ROW to its end. */
    private static void longestPath() {
        TwoWhistlesAndFiveEwes x = Starts.large(16, 0);
        int[] walls = {10, 11, 12, 13, 14, 15, 31, 32, 33, 34, 35, 36, 50, 51, 52, 53, 54, 55};
        for (int cell : walls) {
            x.wall(cell, true);
        }
        DUE.is("29: THE PEN shuts the way", x.path(60), -1);
        DUE.is("30: THE PEN shuts the way", x.reach(99), 7);
        x = Starts.large(53, 0);
        for (int cell : walls) {
            x.wall(cell, true);
        }
        DUE.is("29: to and fro", x.path(60), 6 + 2 + 6 + 2 + 6 + 2 + 6);
        DUE.is("30: one fewer", x.reach(29), 30);
        DUE.is("30: just as many", x.reach(30), 31);
        DUE.is("30: 99", x.reach(99), 31);
    }

    /** 30: "by n (0 to 99) COMMANDS at most (its own, too)". */
    private static void reaches() {
        int[] six = {1, 3, 6, 10, 15, 21, 26, 30, 33, 35, 35, 35};
        int[] seven = {1, 3, 6, 10, 15, 21, 28, 34, 39, 43, 46, 48, 48, 48};
        TwoWhistlesAndFiveEwes x = new TwoWhistlesAndFiveEwes();
        for (int n = 0; n < six.length; n++) {
            DUE.is("30: on SIDE 6 reach(" + n + ")", x.reach(n), six[n]);
        }
        x = Starts.large(0, 66);
        TwoWhistlesAndFiveEwes y = Starts.large(66, 0);
        for (int n = 0; n < seven.length; n++) {
            DUE.is("30: from 66 reach(" + n + ")", x.reach(n), seven[n]);
            DUE.is("30: from 0 reach(" + n + ")", y.reach(n), seven[n]);
        }
        DUE.is("30: reach(99)", x.reach(99), 48);
        DUE.is("30: reach(100)", x.reach(100), -2);
        DUE.is("30: reach(-1)", x.reach(-1), -2);
    }

    /** 31: "How many rows of just n (0 to 6) COMMANDS THE DOG can do". */
    private static void ways() {
        int[] open = {1, 5, 25, 125};
        int[] corner = {1, 3, 11, 43};
        int[] two = {1, 2, 4, 8, 16, 32, 64};
        int[] three = {1, 2, 5, 12, 29, 70, 169};
        TwoWhistlesAndFiveEwes middle = Starts.large(0, 33);
        TwoWhistlesAndFiveEwes first = Starts.large(66, 0);
        TwoWhistlesAndFiveEwes last = Starts.large(0, 66);
        for (int n = 0; n <= 3; n++) {
            DUE.is("31: from the middle, ways(" + n + ")", middle.ways(n), open[n]);
            DUE.is("31: from 0, ways(" + n + ")", first.ways(n), corner[n]);
            DUE.is("31: from 66, ways(" + n + ")", last.ways(n), corner[n]);
        }
        TwoWhistlesAndFiveEwes alone = Starts.onlyOpen(0, 66, 66);
        TwoWhistlesAndFiveEwes pair = Starts.onlyOpen(0, 66, 66, 65);
        TwoWhistlesAndFiveEwes ofThree = Starts.onlyOpen(66, 0, 0, 10, 20);
        for (int n = 0; n <= 6; n++) {
            DUE.is("31: shut in, ways(" + n + ")", alone.ways(n), 1);
            DUE.is("31: two CELLS, ways(" + n + ")", pair.ways(n), two[n]);
            DUE.is("31: three CELLS, ways(" + n + ")", ofThree.ways(n), three[n]);
        }
        DUE.is("31: on SIDE 6, ways(6)", new TwoWhistlesAndFiveEwes().ways(6), 3261);
        DUE.is("31: ways(7)", alone.ways(7), -2);
        DUE.is("31: ways(-1)", alone.ways(-1), -2);
        pair.pen(65);
        DUE.is("31: THE PEN beside it", pair.ways(6), 1);
    }

    /** 39: "of those THE DOG can do .. least, of several the first": each COMMAND once. */
    private static void bests() {
        int[][] due = {{13, 0}, {23, 1}, {4, 2}, {14, 3}, {55, 0}};
        for (int[] d : due) {
            DUE.is("39: THE DOG at " + d[0], Starts.oneEwe(d[0]).best(), d[1]);
        }
        TwoWhistlesAndFiveEwes x = Starts.large(6, 12);
        x.ewe(0, 0, 5);
        DUE.is("39: the mirror of 14", x.best(), 4);
        x.wall(13, true);
        DUE.is("39: a WALL is there: a ROW more comes to the same", x.best(), 0);
        DUE.is("39: no EWES", Starts.large(6, 12).best(), 0);
        x = Starts.oneEwe(13);
        x.move(0, 0);
        DUE.is("39: all are IN", x.best(), 0);
    }

    public static void main(String[] args) {
        fewestByM();
        fewestByRows();
        fewestOfAll();
        mostByM();
        mostOfAll();
        stands();
        paths();
        longestPath();
        reaches();
        ways();
        bests();
        DUE.end();
    }
}
