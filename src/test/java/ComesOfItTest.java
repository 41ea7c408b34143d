/** Promises 21 to 42: what comes of it. */
public final class ComesOfItTest {
    private static final Due DUE = new Due("ComesOfItTest");

    private static TwoWhistlesAndFiveEwes fresh() {
        return new TwoWhistlesAndFiveEwes();
    }

    /** A EWE next to THE PEN, which goes into it if THE DOG comes to 13, and to 11 if THE DOG comes to 4. */
    private static TwoWhistlesAndFiveEwes oneEwe(int dog) {
        TwoWhistlesAndFiveEwes x = fresh();
        x.ewe(0, 0, 1);
        x.dog(dog);
        return x;
    }

    private static void fewest() {
        TwoWhistlesAndFiveEwes x = oneEwe(14);
        DUE.is("21: fewest(0, NONE)", x.fewest(0, -1), -1);
        DUE.is("21: NONE isn't refused", x.status(12) + x.status(15), 0);
        DUE.is("21: fewest(1, NONE)", x.fewest(1, -1), 1);
        DUE.is("21: fewest(6, NONE)", x.fewest(6, -1), 1);
        DUE.is("21: fewest(1, 0)", x.fewest(1, 0), 3);
        DUE.is("21: fewest(1, 1)", x.fewest(1, 1), -5);
        DUE.is("21: fewest(0, 0)", x.fewest(0, 0), -5);
        DUE.is("21: fewest(6, 6)", x.fewest(6, 6), -5);
        x.dog(15);
        DUE.is("21: two", x.fewest(2, -1), 2);
        DUE.is("21: two by six", x.fewest(6, -1), 2);
        DUE.is("21: none by one", x.fewest(1, -1), -1);
        DUE.is("21: the first of two", x.fewest(2, 0), 3);
        DUE.is("21: the second of two", x.fewest(6, 1), 3);
        int[][] bad = {{-1, -1}, {7, -1}, {0, -2}, {6, Integer.MIN_VALUE}, {7, 0}};
        for (int[] b : bad) {
            DUE.is("21: fewest(" + b[0] + ", " + b[1] + ")", x.fewest(b[0], b[1]), -2);
        }
        x.move(0, 0);
        DUE.is("21: all are IN", x.fewest(0, -1), 0);
        DUE.is("21: no EWES", fresh().fewest(6, -1), 0);
        DUE.is("21: nothing changed", x.status(3) * 10 + x.status(5), 150);
    }

    private static void most() {
        TwoWhistlesAndFiveEwes x = oneEwe(14);
        DUE.is("22: most(0, NONE)", x.most(0, -1), 0);
        DUE.is("22: most(1, NONE)", x.most(1, -1), 1);
        DUE.is("22: most(1, 0)", x.most(1, 0), 3);
        DUE.is("22: most(2, NONE)", x.most(2, -1), 1);
        DUE.is("22: most(2, 0)", x.most(2, 0), 0);
        DUE.is("22: most(2, 1)", x.most(2, 1), 3);
        x.ewe(4, 0, 50);
        DUE.is("22: not all", x.most(1, -1), 1);
        DUE.is("22: most(5, NONE)", x.most(5, -1), 1);
        int[][] bad = {{-1, -1}, {6, -1}, {2, 2}, {2, -2}, {0, 0}, {5, Integer.MAX_VALUE}};
        for (int[] b : bad) {
            DUE.is("22: most(" + b[0] + ", " + b[1] + ")", x.most(b[0], b[1]), -2);
        }
        DUE.is("22: nothing changed", x.status(3) * 10 + x.status(6), 140);
    }

    private static void standAndBest() {
        TwoWhistlesAndFiveEwes x = oneEwe(14);
        DUE.is("23: stand", x.stand(), 11);
        DUE.is("39: best", x.best(), 3);
        DUE.is("38: steps", x.steps(), 1);
        x.wall(11, true);
        DUE.is("23: on the EWE's CELL, a WALL beside it", x.stand(), 1);
        x.ewe(2, 0, 55);
        DUE.is("38: steps of two", x.steps(), 11);
        x.dog(44);
        DUE.is("39: none but stay can't harm", x.best(), 0);
        DUE.is("23: no EWES", fresh().stand(), 1);
        DUE.is("39: no EWES", fresh().best(), 0);
        DUE.is("38: no EWES", fresh().steps(), 0);
        DUE.is("nothing changed", x.status(3), 44);
    }

    private static void shy() {
        int[][] due = {{0, 0, 33, 3}, {1, 0, 33, 3}, {2, 0, 33, 3}, {3, 0, 33, 5}, {4, 0, 33, 3}, {5, 2, 33, 2}, {5, 0, 33, 0},
            {5, 9, 33, 5}, {0, 0, 0, -1}, {0, 0, 55, 3}};
        for (int[] d : due) {
            TwoWhistlesAndFiveEwes x = fresh();
            x.ewe(d[0], d[1], d[2]);
            DUE.is("24: shy of KIND " + d[0] + ", a " + d[1] + ", at " + d[2], x.shy(0), d[3]);
            DUE.is("24: NONE isn't refused", x.status(12), 0);
            DUE.is("24: no such EWE", x.shy(1), -2);
            DUE.is("24: no such EWE", x.shy(-1), -2);
            DUE.is("24: nothing changed", x.status(3), 55);
        }
        TwoWhistlesAndFiveEwes x = fresh();
        x.ewe(0, 0, 5);
        x.wall(4, true);
        x.wall(15, true);
        DUE.is("24: from none", x.shy(0), -1);
    }

    private static void late() {
        TwoWhistlesAndFiveEwes x = oneEwe(13);
        Due.fill(x, 0, 0, 4, 3, 5);
        DUE.is("25: late(0, 1, 0)", x.late(0, 1, 0), 0);
        DUE.is("25: late(0, 1, 1)", x.late(0, 1, 1), 1);
        DUE.is("25: late(0, 0, 0)", x.late(0, 0, 0), 0);
        DUE.is("25: late(0, 0, 3)", x.late(0, 0, 3), 1);
        DUE.is("25: late(0, 2, 0)", x.late(0, 2, 0), 1);
        DUE.is("25: no COMMAND", x.late(0, 3, 0), -5);
        Due.fill(x, 3, 0, 5);
        DUE.is("25: no COMMAND, the first", x.late(3, 1, 0), -5);
        DUE.is("25: fewer elements", x.late(0, 4, 0), -2);
        Due.fill(x, 1, 3, 4, 4, 4, 3, 3, (1L << 32) + 1);
        DUE.is("25: what THE DOG can't do", x.late(1, 4, 0), 0);
        DUE.is("25: it doesn't", x.late(1, 5, 0), 1);
        DUE.is("25: a long that is no COMMAND", x.late(1, 6, 0), -5);
        int[][] bad = {{8, 0, 0}, {-1, 0, 0}, {0, -1, 0}, {0, 41, 0}, {0, 0, -1}, {0, 0, 4}, {7, 0, 4}, {7, 41, 0}};
        for (int[] b : bad) {
            DUE.is("25: late(" + b[0] + ", " + b[1] + ", " + b[2] + ")", x.late(b[0], b[1], b[2]), -2);
        }
        DUE.is("25: NOTHING", x.late(7, 40, 0), -4);
        x.show(2, 0);
        DUE.is("25: OTHER", x.late(2, 40, 0), -3);
        DUE.is("25: nothing changed", x.status(3) * 10 + x.status(5), 130);
    }

    private static void bare() {
        TwoWhistlesAndFiveEwes x = fresh();
        DUE.is("26: all", x.bare(), 63 + (63 << 7));
        x.wall(22, true);
        x.ewe(0, 0, 45);
        DUE.is("26: not 2 and 4, not 2 and 5", x.bare(), 43 + (27 << 7));
        x.ewe(0, 0, 0);
        DUE.is("26: nor one that is IN", x.bare(), 42 + (26 << 7));
        x.side(7);
        DUE.is("26: on SIDE 7", x.bare(), 106 + (90 << 7));
    }

    private static void odds() {
        TwoWhistlesAndFiveEwes x = oneEwe(14);
        Due.fill(x, 0, 0, 3, 7);
        Due.fill(x, 1, 4, 0, 0);
        DUE.is("27: heard in 10 of 12", x.odds(0, 1), 833333);
        DUE.is("27: none", x.odds(0, 0), 0);
        DUE.is("27: stay", x.odds(1, 1), 0);
        x.dog(15);
        x.turn(3);
        DUE.is("27: not heard, as it did", x.odds(0, 1), 1000000);
        DUE.is("27: stay, or as it did", x.odds(1, 1), 166666);
        x.wind(12);
        DUE.is("27: never heard", x.odds(1, 1), 1000000);
        x.wind(0);
        DUE.is("27: always heard", x.odds(1, 2), 0);
        x.wind(2);
        x.wall(15, true);
        Due.fill(x, 2, 2, 4, 0);
        DUE.is("27: what it can't do counts as done", x.odds(2, 2), 166666);
        DUE.is("27: no COMMAND", x.odds(0, 2), -5);
        DUE.is("27: fewer elements", x.odds(0, 3), -2);
        DUE.is("27: BAD n", x.odds(0, 7), -2);
        DUE.is("27: BAD n of NOTHING", x.odds(7, -1), -2);
        DUE.is("27: BAD SHELF", x.odds(8, 0), -2);
        DUE.is("27: NOTHING", x.odds(7, 6), -4);
        x.show(3, 0);
        DUE.is("27: OTHER", x.odds(3, 6), -3);
        x.move(0, 0);
        DUE.is("27: all are IN", x.odds(0, 0), 1000000);
        DUE.is("27: nothing changed", x.status(8) * 100 + x.status(3), 314);
    }

    private static void ewes() {
        TwoWhistlesAndFiveEwes x = fresh();
        long[] none = {0, 0, -1, 0};
        for (int what = 0; what < 4; what++) {
            DUE.is("28: no EWES, ewes(" + what + ")", x.ewes(what), none[what]);
        }
        x.ewe(0, 0, 53);
        DUE.is("28: APART, one", x.ewes(0), 0);
        DUE.is("28: FLOCK, one", x.ewes(1), 0);
        DUE.is("28: NEAREST, one", x.ewes(2), 0);
        x.ewe(2, 0, 54);
        x.ewe(2, 0, 44);
        x.ewe(5, 1, 52);
        x.ewe(0, 0, 0);
        DUE.is("28: APART", x.ewes(0), 3);
        DUE.is("28: FLOCK", x.ewes(1), 4 + 8);
        DUE.is("28: NEAREST", x.ewes(2), 1);
        DUE.is("28: MOVED", x.ewes(3), 1 + 4);
        x.move(1, 0);
        DUE.is("28: NEAREST, of several the first", x.ewes(2), 0);
        x.move(4, 11);
        DUE.is("28: APART, one more", x.ewes(0), 6);
        DUE.is("28: FLOCK, one more", x.ewes(1), 1 + 4 + 8 + 16);
        DUE.is("28: ewes(4)", x.ewes(4), -2);
        DUE.is("28: ewes(-1)", x.ewes(-1), -2);
        DUE.is("28: refusals", x.status(12), 2);
    }

    private static void paths() {
        TwoWhistlesAndFiveEwes x = fresh();
        DUE.is("29: its own", x.path(55), 0);
        DUE.is("29: path(44)", x.path(44), 2);
        DUE.is("29: path(1)", x.path(1), 9);
        DUE.is("29: THE PEN", x.path(0), -1);
        for (int cell : new int[] {1, 11, 21, 31, 41}) {
            x.wall(cell, true);
        }
        DUE.is("29: around", x.path(10), 9);
        DUE.is("29: a WALL", x.path(11), -1);
        x.wall(51, true);
        DUE.is("29: behind WALLS", x.path(10), -1);
        DUE.is("29: NONE isn't refused", x.status(12), 0);
        for (int cell : new int[] {-1, 6, 60, Integer.MAX_VALUE}) {
            DUE.is("29: path(" + cell + ")", x.path(cell), -2);
        }
        DUE.is("30: reach(0)", x.reach(0), 1);
        DUE.is("30: reach(1)", x.reach(1), 3);
        DUE.is("30: reach(2)", x.reach(2), 6);
        DUE.is("30: reach(99)", x.reach(99), 24);
        DUE.is("30: none but THE PEN", fresh().reach(99), 35);
        DUE.is("30: reach(100)", x.reach(100), -2);
        DUE.is("30: reach(-1)", x.reach(-1), -2);
        DUE.is("31: ways(0)", x.ways(0), 1);
        DUE.is("31: ways(1)", x.ways(1), 3);
        DUE.is("31: ways(2)", x.ways(2), 11);
        DUE.is("31: ways(6)", fresh().ways(6), 3261);
        DUE.is("31: ways(7)", x.ways(7), -2);
        DUE.is("31: ways(-1)", x.ways(-1), -2);
    }

    private static void longWay() {
        TwoWhistlesAndFiveEwes x = fresh();
        x.side(7);
        x.dog(66);
        x.pen(6);
        for (int cell : new int[] {51, 52, 53, 54, 55, 56, 30, 31, 32, 33, 34, 35, 11, 12, 13, 14, 15, 16}) {
            x.wall(cell, true);
        }
        DUE.is("29: to and fro", x.path(0), 6 + 2 + 6 + 2 + 6 + 2);
        DUE.is("29: to the end", x.path(5), 29);
        DUE.is("30: one fewer", x.reach(28), x.reach(99) - 1);
    }

    private static void cells() {
        TwoWhistlesAndFiveEwes x = fresh();
        x.wall(12, true);
        int[][] due = {{0, 2}, {5, 2}, {55, 2}, {1, 3}, {22, 3}, {2, 2}, {12, 4}, {33, 4}, {11, 3}};
        for (int[] d : due) {
            DUE.is("32: open(" + d[0] + ")", x.open(d[0]), d[1]);
        }
        for (int cell : new int[] {-1, 6, 60, Integer.MIN_VALUE}) {
            DUE.is("32: open(" + cell + ")", x.open(cell), -2);
        }
        x = fresh();
        DUE.is("33: no EWES", x.still(0), 35);
        DUE.is("33: no EWES go", x.still(1), 0);
        x.ewe(0, 0, 33);
        DUE.is("33: one EWE", x.still(0), 12);
        DUE.is("33: one goes", x.still(1), 1);
        x.ewe(5, 0, 11);
        DUE.is("33: one EWE and a LEADER", x.still(0), 11);
        DUE.is("33: not both", x.still(1), 1);
        x.ewe(4, 0, 44);
        DUE.is("33: two of three", x.still(1), 2);
        DUE.is("33: still(2)", x.still(2), -2);
        DUE.is("33: still(-1)", x.still(-1), -2);
        DUE.is("33: nothing changed", x.status(3), 55);
    }

    private static void lists() {
        TwoWhistlesAndFiveEwes x = fresh();
        DUE.is("34: no EWES", x.held(), 0);
        DUE.is("35: no EWES", x.grazing(), 0);
        DUE.is("36: no EWES", x.last(), -1);
        x.ewe(0, 0, 0);
        DUE.is("36: one that is IN", x.last(), 0);
        x.move(0, 1);
        DUE.is("35: EWE 0", x.grazing(), 1);
        x.move(0, 0);
        x.ewe(2, 0, 54);
        x.ewe(0, 0, 53);
        x.ewe(5, 0, 45);
        x.ewe(3, 0, 33);
        DUE.is("34: held", x.held(), 2 + 8);
        DUE.is("35: grazing", x.grazing(), 16);
        DUE.is("36: of several the first", x.last(), 1);
        x.move(2, 55);
        DUE.is("36: the farthest", x.last(), 2);
        x.dog(1);
        DUE.is("35: none that is IN", x.grazing(), 30);
        DUE.is("34: none that is IN", x.held(), 0);
        DUE.is("37: near(4, 3)", x.near(4, 3), 2 + 8);
        DUE.is("37: near(4, 0)", x.near(4, 0), 0);
        DUE.is("37: near(4, 12)", x.near(4, 12), 15);
        x.move(2, 33);
        DUE.is("37: in one CELL", x.near(4, 0), 4);
        int[][] bad = {{-1, 0}, {5, 0}, {0, -1}, {0, 13}};
        for (int[] b : bad) {
            DUE.is("37: near(" + b[0] + ", " + b[1] + ")", x.near(b[0], b[1]), -2);
        }
    }

    private static void kinds() {
        TwoWhistlesAndFiveEwes x = fresh();
        x.ewe(0, 5, 22);
        x.ewe(0, 0, 22);
        Due.fill(x, 0, 0, 25, 66);
        long[][] due = {{12, 55}, {1, 8}, {22, 0}, {11, 0}};
        for (long[] d : due) {
            Due.fill(x, 1, 3, d[0]);
            DUE.is("40: KINDS to " + d[0], x.kinds(0, 1, 1, 0), d[1]);
        }
        Due.fill(x, 1, 3, 22);
        DUE.is("40: a LEADER of a 0", x.kinds(0, 1, 1, 1), 32);
        Due.fill(x, 1, 3, 12);
        DUE.is("40: no LEADER of a 0", x.kinds(0, 1, 1, 1), 23);
        DUE.is("40: no TURNS", x.kinds(0, 1, 0, 0), 63);
        Due.fill(x, 1, 3, 12, 12);
        DUE.is("40: 66 is no CELL", x.kinds(0, 1, 2, 0), -5);
        Due.fill(x, 0, 0, 25, 15);
        DUE.is("40: two TURNS, it stays behind", x.kinds(0, 1, 2, 0), 0);
        Due.fill(x, 1, 3, 12, 2);
        DUE.is("40: two TURNS", x.kinds(0, 1, 2, 0), 55);
        Due.fill(x, 1, 3, 12, (1L << 32) + 2);
        DUE.is("40: a long that is no CELL", x.kinds(0, 1, 2, 0), -5);
        x.wall(25, true);
        x.wall(50, true);
        DUE.is("40: THE DOG told at a WALL", x.kinds(0, 1, 1, 0), 55);
        x.move(0, 1);
        Due.fill(x, 0, 0, 13, 2, 0);
        Due.fill(x, 1, 3, 0, 0, 0);
        DUE.is("40: IN, it stays", x.kinds(0, 1, 3, 0), 1 + 2 + 4 + 8 + 16 + 32);
        DUE.is("40: fewer elements", x.kinds(0, 1, 4, 0), -2);
        Due.fill(x, 3, 3, -1, 0, 0, 0);
        DUE.is("40: fewer elements in the first", x.kinds(0, 3, 4, 0), -2);
        DUE.is("40: fewer elements in the second", x.kinds(3, 1, 4, 0), -2);
        DUE.is("40: no CELL, the first of its own", x.kinds(0, 3, 1, 0), -5);
        DUE.is("40: no CELL, THE DOG's first", x.kinds(3, 1, 1, 0), -5);
        DUE.is("40: no such EWE", x.kinds(0, 1, 1, 2), -2);
        DUE.is("40: BAD n", x.kinds(7, 7, 41, 0), -2);
        DUE.is("40: BAD n", x.kinds(7, 7, -1, 0), -2);
        DUE.is("40: BAD SHELF", x.kinds(8, 0, 0, 0), -2);
        DUE.is("40: BAD SHELF", x.kinds(0, -1, 0, 0), -2);
        DUE.is("40: NOTHING", x.kinds(7, 0, 0, 0), -4);
        DUE.is("40: NOTHING", x.kinds(0, 7, 40, 0), -4);
        x.show(2, 0);
        DUE.is("40: OTHER ahead of NOTHING", x.kinds(7, 2, 0, 0), -3);
        DUE.is("40: OTHER", x.kinds(2, 0, 0, 0), -3);
        x.move(0, 0);
        DUE.is("40: it is IN", x.kinds(0, 1, 0, 0), -5);
        DUE.is("40: nothing changed", x.status(3), 55);
    }

    private static void judgeAndBehind() {
        TwoWhistlesAndFiveEwes x = oneEwe(15);
        Due.fill(x, 0, 0, 3, 3, 1, 1, 5);
        DUE.is("41: up to the top", x.judge(0, 3), -1);
        DUE.is("41: off the hill", x.judge(0, 4), 3);
        DUE.is("41: the first", x.judge(0, 5), 3);
        DUE.is("41: none", x.judge(0, 0), -1);
        DUE.is("41: NONE isn't refused", x.status(12), 0);
        Due.fill(x, 1, 3, 0, (1L << 32) + 3);
        DUE.is("41: a long that is no COMMAND", x.judge(1, 2), 1);
        Due.fill(x, 1, 3, 3, 3, 3, 3, 1, 3);
        DUE.is("41: into THE PEN", x.judge(1, 6), 5);
        DUE.is("42: behind(0, 2, 0)", x.behind(0, 2, 0), 1);
        DUE.is("42: behind(0, 1, 0)", x.behind(0, 1, 0), 0);
        DUE.is("42: THE DOG", x.behind(0, 3, 1), 3);
        DUE.is("42: a EWE", x.behind(0, 1, 10), 1);
        DUE.is("42: a EWE that is IN", x.behind(0, 2, 10), 0);
        x.ewe(4, 0, 51);
        DUE.is("42: APART", x.behind(0, 1, 2), 5);
        DUE.is("42: APART, one IN", x.behind(0, 2, 2), 0);
        DUE.is("42: EWE 1", x.behind(0, 0, 11), 51);
        DUE.is("42: WRONG", x.behind(0, 4, 0), -5);
        int[][] bad = {{0, 1, -1}, {0, 1, 3}, {0, 1, 9}, {0, 1, 12}, {0, 1, 15}, {8, 1, 0}, {-1, 1, 0}, {0, -1, 0}, {0, 41, 0},
            {0, 6, 0}, {7, 0, 3}, {7, 0, 14}};
        for (int[] b : bad) {
            DUE.is("42: behind(" + b[0] + ", " + b[1] + ", " + b[2] + ")", x.behind(b[0], b[1], b[2]), -2);
        }
        DUE.is("42: NOTHING", x.behind(7, 40, 0), -4);
        DUE.is("41: NOTHING", x.judge(7, 40), -4);
        x.show(2, 0);
        DUE.is("42: OTHER", x.behind(2, 40, 0), -3);
        DUE.is("41: OTHER", x.judge(2, 40), -3);
        DUE.is("41: fewer elements", x.judge(0, 6), -2);
        DUE.is("41: BAD n", x.judge(2, 41), -2);
        DUE.is("41: BAD n", x.judge(0, -1), -2);
        DUE.is("41: BAD SHELF", x.judge(8, 0), -2);
        DUE.is("42: nothing changed", x.status(3) * 10 + x.status(5), 150);
    }

    public static void main(String[] args) {
        fewest();
        most();
        standAndBest();
        shy();
        late();
        bare();
        odds();
        ewes();
        paths();
        longWay();
        cells();
        lists();
        kinds();
        judgeAndBehind();
        DUE.end();
    }
}
