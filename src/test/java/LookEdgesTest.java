/** The edges of promises 24, 26, 28 and 32 to 38: what can be seen of EWES and CELLS. */
public final class LookEdgesTest {
    private static final Due DUE = new Due("LookEdgesTest");
    private static final int OLD = 2;
    private static final int WILD = 3;
    private static final int STUBBORN = 4;
    private static final int LEADER = 5;

    /** 24: "The most STEPS from which THE DOG .. would move a EWE", of each KIND. */
    private static void shyByKind() {
        int[] due = {3, 3, 3, 5, 3};
        for (int kind = 0; kind < LEADER; kind++) {
            TwoWhistlesAndFiveEwes x = Starts.large(0, 66);
            x.ewe(kind, 9, 33);
            DUE.is("24: KIND " + kind, x.shy(0), due[kind]);
        }
        for (int a = 0; a <= 9; a++) {
            TwoWhistlesAndFiveEwes x = Starts.large(0, 66);
            x.ewe(LEADER, a, 33);
            // no CELL is more than 6 STEPS from the middle
            DUE.is("24: a LEADER of " + a, x.shy(0), Math.min(a, 6));
        }
    }

    /** 24: "(no WALL, not THE PEN)"; "NONE: from none". */
    private static void shyByCells() {
        TwoWhistlesAndFiveEwes x = Starts.onlyOpen(66, 62, 62, 63, 64, 65, 66);
        x.ewe(0, 0, 63);
        DUE.is("24: not from THE PEN, 3 STEPS away", x.shy(0), 2);
        x.wall(65, true);
        DUE.is("24: not from WALLS, 2 STEPS away", x.shy(0), 1);
        x.dog(64);
        x.wall(62, true);
        DUE.is("24: from its own CELL alone: beside it there is none farther", x.shy(0), 0);
        x = Starts.onlyOpen(0, 66, 66, 65, 64, 63);
        x.ewe(0, 0, 64);
        DUE.is("24: from the last CELL", x.shy(0), 2);
        x = Starts.onlyOpen(66, 0, 0, 1, 2, 3);
        x.ewe(0, 0, 2);
        DUE.is("24: from CELL 0", x.shy(0), 2);
        x = Starts.onlyOpen(0, 66, 66, 65, 64, 63);
        x.ewe(OLD, 0, 65);
        DUE.is("24: it stares at all but one", x.shy(0), 2);
        x.ewe(STUBBORN, 0, 65);
        DUE.is("24: it stares at all", x.shy(1), -1);
        x.move(0, 0);
        DUE.is("24: IN", x.shy(0), -1);
        x = Starts.onlyOpen(0, 66, 66, 33);
        x.ewe(WILD, 0, 33);
        DUE.is("24: nowhere to go", x.shy(0), -1);
        DUE.is("24: NONE isn't refused", x.status(12), 0);
        DUE.is("24: no EWE 1", x.shy(1), -2);
        DUE.is("24: no EWE -1", x.shy(-1), -2);
    }

    /** 26: "ROWS (bits 0 on) and COLUMNS (bits 7 on) of the hill in which there is neither a WALL nor a EWE". */
    private static void bares() {
        DUE.is("26: an empty hill", new TwoWhistlesAndFiveEwes().bare(), 63 + 63 * 128);
        DUE.is("26: an empty hill of SIDE 7", Starts.large(0, 66).bare(), 127 + 127 * 128);
        DUE.is("26: THE PEN and THE DOG are none of it", Starts.large(33, 34).bare(), 127 + 127 * 128);
        for (int row = 0; row < 7; row++) {
            for (int column = 0; column < 7; column++) {
                int cell = 10 * row + column;
                int dog = cell == 33 ? 34 : 33;
                TwoWhistlesAndFiveEwes x = Starts.large(cell == 0 ? 66 : 0, dog);
                x.ewe(0, 0, cell);
                int due = 127 - (1 << row) + (127 - (1 << column)) * 128;
                DUE.is("26: a EWE at " + cell, x.bare(), due);
                x.move(0, dog);
                x.wall(cell, true);
                x.move(0, cell == 0 ? 66 : 0);
                int others = cell == 0 ? 64 : 1;
                DUE.is("26: a WALL at " + cell + ", a EWE that is IN", x.bare(), due & ~(others * 129));
            }
        }
        TwoWhistlesAndFiveEwes x = Starts.onlyOpen(0, 66);
        DUE.is("26: WALLS in all", x.bare(), 0);
        x = new TwoWhistlesAndFiveEwes();
        x.wall(5, true);
        x.wall(50, true);
        DUE.is("26: SIDE 6 has no bits 6 and 13", x.bare(), 30 + 30 * 128);
        x.ewe(0, 0, 33);
        x.ewe(0, 0, 33);
        DUE.is("26: two EWES in one CELL", x.bare(), 22 + 22 * 128);
    }

    /** 28: "APART: the most STEPS between two EWES that aren't IN (0: fewer than two)". */
    private static void apart() {
        TwoWhistlesAndFiveEwes x = Starts.large(33, 34);
        DUE.is("28: APART of none", x.ewes(0), 0);
        x.ewe(0, 0, 0);
        DUE.is("28: APART of one", x.ewes(0), 0);
        x.ewe(0, 0, 33);
        DUE.is("28: APART of one and one that is IN", x.ewes(0), 0);
        x.ewe(0, 0, 0);
        DUE.is("28: APART of two in one CELL", x.ewes(0), 0);
        x.move(2, 1);
        DUE.is("28: APART, 1", x.ewes(0), 1);
        x.ewe(0, 0, 66);
        DUE.is("28: APART, the most", x.ewes(0), 12);
        x.ewe(0, 0, 60);
        DUE.is("28: APART, the most of many", x.ewes(0), 12);
        x.move(3, 33);
        DUE.is("28: APART without the one that is IN", x.ewes(0), 7);
    }

    /** 28: "FLOCK: .. from which another one that isn't IN is more than 2 STEPS away". */
    private static void flock() {
        TwoWhistlesAndFiveEwes x = Starts.large(0, 66);
        DUE.is("28: FLOCK of none", x.ewes(1), 0);
        x.ewe(0, 0, 33);
        DUE.is("28: FLOCK of one", x.ewes(1), 0);
        x.ewe(0, 0, 35);
        DUE.is("28: 2 STEPS", x.ewes(1), 0);
        x.move(1, 44);
        DUE.is("28: 2 STEPS, around the corner", x.ewes(1), 0);
        x.move(1, 36);
        DUE.is("28: 3 STEPS", x.ewes(1), 3);
        x.ewe(0, 0, 34);
        DUE.is("28: one between", x.ewes(1), 3);
        x.ewe(0, 0, 0);
        DUE.is("28: nor one that is IN", x.ewes(1), 3);
        x.ewe(0, 0, 66);
        DUE.is("28: all but that", x.ewes(1), 1 + 2 + 4 + 16);
        x.move(4, 0);
        x.move(1, 0);
        DUE.is("28: none is far from those left", x.ewes(1), 0);
    }

    /** 28: "NEAREST: the EWE that isn't IN nearest to THE DOG, of several the first"; "NONE". */
    private static void nearest() {
        TwoWhistlesAndFiveEwes x = Starts.large(33, 34);
        DUE.is("28: NEAREST of none", x.ewes(2), -1);
        x.ewe(0, 0, 33);
        DUE.is("28: NEAREST, all are IN", x.ewes(2), -1);
        x.ewe(0, 0, 60);
        DUE.is("28: NEAREST, not the one that is IN", x.ewes(2), 1);
        x.ewe(0, 0, 36);
        DUE.is("28: the nearer", x.ewes(2), 2);
        x.ewe(0, 0, 32);
        DUE.is("28: of several the first", x.ewes(2), 2);
        x.ewe(0, 0, 34);
        DUE.is("28: 0 STEPS", x.ewes(2), 4);
        x.move(0, 34);
        DUE.is("28: EWE 0 as near", x.ewes(2), 0);
        DUE.is("28: NONE isn't refused", x.status(12), 0);
    }

    /** 28: "MOVED: EWES (bits) that would go, if THE DOG stayed"; 34: "have THE DOG 3 STEPS away or fewer, but wouldn't go". */
    private static void movedAndHeld() {
        // KIND, a, CELL, whether it would go, whether it is held; THE DOG is at 33
        int[][] due = {{0, 0, 33, 1, 0}, {0, 0, 36, 0, 1}, {0, 0, 35, 1, 0}, {0, 0, 26, 0, 0}, {1, 0, 30, 0, 1}, {1, 0, 20, 0, 0},
            {OLD, 0, 33, 0, 1}, {OLD, 0, 34, 0, 1}, {OLD, 0, 35, 1, 0}, {OLD, 0, 44, 1, 0}, {OLD, 0, 45, 1, 0}, {OLD, 0, 55, 0, 0},
            {STUBBORN, 0, 33, 0, 1}, {STUBBORN, 0, 35, 0, 1}, {STUBBORN, 0, 45, 1, 0}, {STUBBORN, 0, 46, 0, 0}, {WILD, 0, 45, 1, 0},
            {WILD, 0, 46, 1, 0}, {WILD, 0, 65, 1, 0}, {WILD, 0, 66, 0, 0}, {LEADER, 0, 33, 1, 0}, {LEADER, 0, 34, 0, 1},
            {LEADER, 0, 45, 0, 1}, {LEADER, 0, 55, 0, 0}, {LEADER, 2, 35, 1, 0}, {LEADER, 2, 45, 0, 1}, {LEADER, 3, 45, 1, 0},
            {LEADER, 3, 55, 0, 0}, {LEADER, 4, 55, 1, 0}};
        for (int[] d : due) {
            TwoWhistlesAndFiveEwes x = Starts.large(0, 33);
            x.ewe(0, 0, 0);
            // shut up at the border, 3 STEPS away
            if (d[2] == 36 || d[2] == 30) {
                x.wall(d[2] - 10, true);
                x.wall(d[2] + 10, true);
            }
            x.ewe(d[0], d[1], d[2]);
            String why = "KIND " + d[0] + ", a " + d[1] + ", at " + d[2];
            DUE.is("28: MOVED, " + why, x.ewes(3), 2 * d[3]);
            DUE.is("34: held, " + why, x.held(), 2 * d[4]);
            x.turn(0);
            DUE.is("28: it goes, " + why, x.eweOf(1, 2) == d[2] ? 0 : 1, d[3]);
        }
        TwoWhistlesAndFiveEwes x = Starts.large(0, 33);
        for (int e = 0; e < 5; e++) {
            x.ewe(e, 0, e == OLD || e == STUBBORN ? 63 : 43);
        }
        DUE.is("28: all five", x.ewes(3), 31);
        DUE.is("34: none of five", x.held(), 0);
        x.dog(63);
        DUE.is("34: two of five", x.held(), 4 + 16);
        for (int e = 0; e < 5; e++) {
            x.move(e, 0);
        }
        x.dog(1);
        DUE.is("28: all are IN", x.ewes(3), 0);
        DUE.is("34: all are IN", x.held(), 0);
    }

    /** 32: "How many CELLS next to a CELL are of the hill and have no WALL". */
    private static void opens() {
        for (int side = 6; side <= 7; side++) {
            TwoWhistlesAndFiveEwes x = new TwoWhistlesAndFiveEwes();
            x.side(side);
            for (int i = 0; i < side * side; i++) {
                int row = i / side;
                int column = i % side;
                int due = 4 - (row == 0 ? 1 : 0) - (row == side - 1 ? 1 : 0) - (column == 0 ? 1 : 0) - (column == side - 1 ? 1 : 0);
                DUE.is("32: open(" + (10 * row + column) + ") on SIDE " + side, x.open(10 * row + column), due);
            }
        }
        TwoWhistlesAndFiveEwes x = Starts.large(23, 43);
        x.ewe(0, 0, 32);
        DUE.is("32: THE PEN, THE DOG, a EWE have no WALL", x.open(33), 4);
        x.wall(33, true);
        DUE.is("32: its own WALL is none of them", x.open(33), 4);
        int[] walls = {34, 32, 43, 23};
        x.pen(0);
        x.dog(66);
        x.move(0, 0);
        for (int i = 0; i < walls.length; i++) {
            x.wall(walls[i], true);
            DUE.is("32: WALLS, " + (i + 1), x.open(33), 3 - i);
        }
    }

    /** 33: "How many CELLS .. would move no EWE (what 0), most EWES together: how many go (1)". */
    private static void stills() {
        DUE.is("33: no EWES on SIDE 6", new TwoWhistlesAndFiveEwes().still(0), 35);
        DUE.is("33: no EWES on SIDE 7", Starts.large(33, 66).still(0), 48);
        DUE.is("33: no EWES go", Starts.large(33, 66).still(1), 0);
        int[][] due = {{60, 6}, {61, 2}, {62, 1}, {63, 0}, {64, 1}, {65, 2}, {66, 6}};
        for (int[] d : due) {
            TwoWhistlesAndFiveEwes x = Starts.onlyOpen(33, 61, 60, 61, 62, 63, 64, 65, 66);
            x.ewe(0, 0, d[0]);
            // at a border none but its own CELL moves it, else those 3 STEPS away or fewer
            DUE.is("33: in one ROW, a EWE at " + d[0], x.still(0), d[1]);
            DUE.is("33: one goes", x.still(1), 1);
            x.ewe(0, 0, 33);
            DUE.is("33: one that is IN doesn't", x.still(1), 1);
        }
        TwoWhistlesAndFiveEwes x = Starts.onlyOpen(33, 61, 60, 61, 62, 63, 64, 65, 66);
        for (int e = 1; e <= 5; e++) {
            x.ewe(0, 0, 62);
            DUE.is("33: together", x.still(1), e);
            DUE.is("33: none by the last CELL alone", x.still(0), 1);
        }
        x.move(4, 33);
        DUE.is("33: four of five", x.still(1), 4);
        x.wall(66, true);
        DUE.is("33: no CELL with a WALL", x.still(0), 0);
        DUE.is("33: what -1", x.still(-1), -2);
        DUE.is("33: what 2", x.still(2), -2);
        x = Starts.onlyOpen(66, 1, 0, 1, 2, 3, 4, 5, 6);
        x.ewe(0, 0, 4);
        DUE.is("33: none by CELL 0 alone", x.still(0), 1);
    }

    /** 35: "EWES (bits) that aren't IN and more than 3 STEPS from THE DOG". */
    private static void grazings() {
        TwoWhistlesAndFiveEwes x = Starts.large(66, 0);
        DUE.is("35: no EWES", x.grazing(), 0);
        for (int kind = 0; kind < 5; kind++) {
            x.ewe(kind, 9, 30);
        }
        DUE.is("35: 3 STEPS", x.grazing(), 0);
        DUE.is("34: 3 STEPS, all go", x.held(), 0);
        for (int e = 0; e < 5; e++) {
            x.move(e, 31);
            DUE.is("35: 4 STEPS", x.grazing(), (2 << e) - 1);
            DUE.is("34: 4 STEPS aren't held", x.held(), 0);
        }
        x.move(1, 66);
        DUE.is("35: not the one that is IN", x.grazing(), 31 - 2);
    }

    /** 36: "The EWE farthest from THE PEN, of several the first; NONE: no EWES"; 38: "All STEPS of EWES to THE PEN together". */
    private static void lastAndSteps() {
        TwoWhistlesAndFiveEwes x = Starts.large(0, 55);
        DUE.is("36: no EWES", x.last(), -1);
        DUE.is("38: no EWES", x.steps(), 0);
        for (int e = 0; e < 5; e++) {
            x.ewe(0, 0, 0);
            DUE.is("36: all are IN", x.last(), 0);
            DUE.is("38: all are IN", x.steps(), 0);
        }
        x.move(3, 10);
        DUE.is("36: the only one that isn't", x.last(), 3);
        x.move(4, 1);
        DUE.is("36: of several the first", x.last(), 3);
        x.move(4, 11);
        DUE.is("36: the farther", x.last(), 4);
        DUE.is("38: 1 and 2", x.steps(), 3);
        for (int e = 0; e < 5; e++) {
            x.move(e, 66);
            DUE.is("38: the most", x.steps(), (e < 3 ? 3 : e < 4 ? 2 : 0) + 12 * (e + 1));
        }
        DUE.is("36: all as far", x.last(), 0);
        DUE.is("36: NONE isn't refused", x.status(12), 0);
    }

    /** 37: "EWES (bits) within n STEPS (0 to 12) of a EWE, but not itself". */
    private static void nears() {
        TwoWhistlesAndFiveEwes x = Starts.large(66, 55);
        x.ewe(0, 0, 0);
        DUE.is("37: not itself", x.near(0, 12), 0);
        x.ewe(0, 0, 0);
        x.ewe(0, 0, 1);
        x.ewe(0, 0, 33);
        x.ewe(0, 0, 66);
        for (int n = 0; n <= 12; n++) {
            int due = 2 + (n >= 1 ? 4 : 0) + (n >= 6 ? 8 : 0) + (n >= 12 ? 16 : 0);
            DUE.is("37: near(0, " + n + ")", x.near(0, n), due);
        }
        DUE.is("37: near(4, 11), one that is IN", x.near(4, 11), 4 + 8);
        DUE.is("37: near(4, 12)", x.near(4, 12), 15);
        DUE.is("37: near(4, 0)", x.near(4, 0), 0);
        DUE.is("37: near(0, 13)", x.near(0, 13), -2);
        DUE.is("37: near(0, -1)", x.near(0, -1), -2);
        DUE.is("37: near(5, 0)", x.near(5, 0), -2);
        DUE.is("37: near(-1, 0)", x.near(-1, 0), -2);
    }

    public static void main(String[] args) {
        shyByKind();
        shyByCells();
        bares();
        apart();
        flock();
        nearest();
        movedAndHeld();
        opens();
        stills();
        grazings();
        lastAndSteps();
        nears();
        DUE.end();
    }
}
