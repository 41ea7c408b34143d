/** The edges that promises 9 to 17, 19 and 20 and the terms of THE HILL name; what is refused there is in RefusalsTest, too. */
public final class HillEdgesTest {
    private static final Due DUE = new Due("HillEdgesTest");
    private static final int[] SIX_BAD = {-1, -10, -11, -55, 6, 7, 8, 9, 16, 56, 59, 60, 61, 65, 66, 70, 99, 100, 155, 255, 1000,
        Integer.MAX_VALUE, Integer.MIN_VALUE};
    private static final int[] SIX_GOOD = {0, 5, 10, 15, 22, 50, 54, 55};
    private static final int[] SEVEN_BAD = {-1, -10, 7, 8, 9, 17, 67, 69, 70, 71, 76, 77, 100, 106, Integer.MAX_VALUE,
        Integer.MIN_VALUE};
    private static final int[] SEVEN_GOOD = {0, 6, 16, 55, 56, 60, 65, 66};

    private static TwoWhistlesAndFiveEwes ofSide(int side) {
        TwoWhistlesAndFiveEwes x = new TwoWhistlesAndFiveEwes();
        x.side(side);
        return x;
    }

    /** "CELLS are 10 times the ROW and the COLUMN (0 to n less 1 each)". */
    private static void cells() {
        for (int side = 6; side <= 7; side++) {
            TwoWhistlesAndFiveEwes x = ofSide(side);
            for (int cell = -25; cell < 130; cell++) {
                boolean is = cell >= 0 && cell / 10 < side && cell % 10 < side;
                DUE.is("20: on SIDE " + side + " hasWall(" + cell + ")", x.hasWall(cell), is ? 0 : -2);
                DUE.is("32: on SIDE " + side + " open(" + cell + ") is refused", x.open(cell) == -2 ? 1 : 0, is ? 0 : 1);
            }
        }
    }

    /** The same for each call that takes a CELL. */
    private static void cellsOfAllCalls(int side, int[] good, int[] bad) {
        for (int cell : bad) {
            TwoWhistlesAndFiveEwes x = ofSide(side);
            x.ewe(0, 0, 33);
            String of = "(" + cell + ") on SIDE " + side;
            DUE.is("10: wall" + of, x.wall(cell, true), -2);
            DUE.is("10: no wall" + of, x.wall(cell, false), -2);
            DUE.is("11: pen" + of, x.pen(cell), -2);
            DUE.is("12: dog" + of, x.dog(cell), -2);
            DUE.is("13: ewe" + of, x.ewe(0, 0, cell), -2);
            DUE.is("14: move" + of, x.move(0, cell), -2);
            DUE.is("29: path" + of, x.path(cell), -2);
        }
        for (int cell : good) {
            TwoWhistlesAndFiveEwes x = ofSide(side);
            String of = "(" + cell + ") on SIDE " + side;
            x.pen(33);
            x.dog(34);
            DUE.is("10: wall" + of, x.wall(cell, true), 0);
            DUE.is("20: hasWall" + of, x.hasWall(cell), 1);
            DUE.is("10: no wall" + of, x.wall(cell, false), 1);
            DUE.is("12: dog" + of, x.dog(cell), 34);
            DUE.is("29: path" + of, x.path(cell), 0);
            DUE.is("12: back", x.dog(34), cell);
            DUE.is("11: pen" + of, x.pen(cell), 33);
            DUE.is("13: ewe" + of, x.ewe(0, 0, cell), 0);
            DUE.is("14: away", x.move(0, 33), cell);
            DUE.is("14: move" + of, x.move(0, cell), 33);
        }
    }

    /** "SIDE n (3 to 7; 6 at first)"; 9: "BAD: also less than it is". */
    private static void sides() {
        TwoWhistlesAndFiveEwes x = new TwoWhistlesAndFiveEwes();
        for (int n = -1; n < 6; n++) {
            DUE.is("9: less than 6, side(" + n + ")", x.side(n), -2);
        }
        DUE.is("9: too many", x.side(8), -2);
        DUE.is("9: as many", x.side(6), 6);
        DUE.is("9: more", x.side(7), 6);
        for (int n = -1; n < 7; n++) {
            DUE.is("9: less than 7, side(" + n + ")", x.side(n), -2);
        }
        DUE.is("9: too many still", x.side(8), -2);
        DUE.is("9: as many again", x.side(7), 7);
    }

    /** A larger SIDE leaves all where it is. */
    private static void largerSide() {
        TwoWhistlesAndFiveEwes x = new TwoWhistlesAndFiveEwes();
        x.pen(5);
        x.wall(50, true);
        x.wall(15, true);
        x.ewe(0, 0, 54);
        x.side(7);
        DUE.is("9: THE PEN", x.status(2), 5);
        DUE.is("9: THE DOG", x.status(3), 55);
        DUE.is("9: the EWE", x.eweOf(0, 2), 54);
        DUE.is("9: WALLS", x.status(7), 2);
        DUE.is("9: one of them", x.hasWall(50), 1);
        for (int i = 0; i <= 6; i++) {
            DUE.is("9: none in the new ROW", x.hasWall(60 + i), 0);
            DUE.is("9: none in the new COLUMN", x.hasWall(10 * i + 6), 0);
        }
        DUE.is("9: 06 is next to 05 now, 15 has a WALL", x.open(5), 2);
    }

    /** A WALL on each CELL but THE PEN's and THE DOG's: the hill is full of them, then empty again. */
    private static void wallsEverywhere() {
        for (int side = 6; side <= 7; side++) {
            TwoWhistlesAndFiveEwes x = ofSide(side);
            int walls = 0;
            for (int i = 0; i < side * side; i++) {
                int cell = i / side * 10 + i % side;
                boolean isTaken = cell == 0 || cell == 55;
                DUE.is("10: wall(" + cell + ", true)", x.wall(cell, true), isTaken ? -5 : 0);
                walls += isTaken ? 0 : 1;
                DUE.is("10: WALLS", x.status(7), walls);
            }
            DUE.is("49: all WALLS but two", x.status(7), side * side - 2);
            DUE.is("30: THE DOG is shut in", x.reach(99), 1);
            for (int i = 0; i < side * side; i++) {
                int cell = i / side * 10 + i % side;
                DUE.is("10: wall(" + cell + ", false)", x.wall(cell, false), cell == 0 || cell == 55 ? 0 : 1);
            }
            DUE.is("49: none", x.status(7), 0);
        }
    }

    /** 10: "whether it had (1, 0)"; "STUCK: a WALL at THE PEN, THE DOG, a EWE", where each of them is now. */
    private static void wallsWhereSomethingWas() {
        TwoWhistlesAndFiveEwes x = new TwoWhistlesAndFiveEwes();
        x.ewe(2, 0, 22);
        x.pen(11);
        x.dog(44);
        x.move(0, 33);
        int[][] due = {{0, 0}, {55, 0}, {22, 0}, {11, -5}, {44, -5}, {33, -5}, {0, 1}};
        for (int[] d : due) {
            DUE.is("10: wall(" + d[0] + ", true)", x.wall(d[0], true), d[1]);
        }
        x.ewe(0, 0, 34);
        x.ewe(0, 0, 35);
        x.ewe(0, 0, 25);
        x.ewe(0, 0, 24);
        DUE.is("10: at the fifth EWE", x.wall(24, true), -5);
        DUE.is("10: no WALL is taken away where a EWE is", x.wall(24, false), 0);
        DUE.is("10: WALLS", x.status(7), 3);
    }

    /** 11: "which it was"; "STUCK: a WALL, THE DOG, a EWE is there (also where it is now)". */
    private static void pens() {
        TwoWhistlesAndFiveEwes x = new TwoWhistlesAndFiveEwes();
        x.wall(22, true);
        DUE.is("11: where it is", x.pen(0), 0);
        DUE.is("11: at a WALL", x.pen(22), -5);
        DUE.is("11: at THE DOG", x.pen(55), -5);
        x.wall(22, false);
        DUE.is("11: no WALL any more", x.pen(22), 0);
        x.dog(54);
        DUE.is("11: THE DOG is gone", x.pen(55), 22);
        x.ewe(0, 0, 0);
        DUE.is("11: a EWE is there", x.pen(0), -5);
        x.move(0, 55);
        DUE.is("11: a EWE is where it is now", x.pen(55), -5);
        DUE.is("11: a EWE is where it is now, elsewhere", x.pen(0), -5);
        x.ewe(0, 0, 33);
        x.move(0, 54);
        DUE.is("11: a EWE is at THE DOG", x.pen(54), -5);
        DUE.is("11: free again", x.pen(0), 55);
        x.move(1, 0);
        DUE.is("11: the second EWE is IN", x.pen(55), -5);
        DUE.is("11: THE PEN", x.status(2), 0);
    }

    /** 12: "where it was"; "STUCK: a WALL, THE PEN is there"; EWES are not in its way. */
    private static void dogs() {
        TwoWhistlesAndFiveEwes x = new TwoWhistlesAndFiveEwes();
        x.ewe(0, 0, 22);
        DUE.is("12: where it is", x.dog(55), 55);
        DUE.is("12: at a EWE", x.dog(22), 55);
        DUE.is("12: the EWE stays", x.eweOf(0, 2), 22);
        DUE.is("12: 0 STEPS", x.eweOf(0, 4), 0);
        DUE.is("12: at THE PEN", x.dog(0), -5);
        x.pen(1);
        DUE.is("12: where THE PEN was", x.dog(0), 22);
        DUE.is("12: where THE PEN is", x.dog(1), -5);
        x.wall(10, true);
        DUE.is("12: at a WALL", x.dog(10), -5);
        x.wall(10, false);
        DUE.is("12: no WALL any more", x.dog(10), 0);
        DUE.is("12: that was no TURN", x.status(5) + x.status(8), 0);
    }

    /** "EWES have numbers, 0 on, 5 at most"; KINDS 0 to 5; "a (0 to 9)"; 13: "STUCK: a WALL is there; FULL". */
    private static void ewes() {
        for (int kind = -1; kind <= 6; kind++) {
            for (int a = -1; a <= 10; a++) {
                TwoWhistlesAndFiveEwes x = new TwoWhistlesAndFiveEwes();
                boolean is = kind >= 0 && kind <= 5 && a >= 0 && a <= 9;
                DUE.is("13: ewe(" + kind + ", " + a + ", 33)", x.ewe(kind, a, 33), is ? 0 : -2);
                DUE.is("19: KIND", x.eweOf(0, 0), is ? kind : -2);
                DUE.is("19: a", x.eweOf(0, 1), is ? a : -2);
                DUE.is("49: EWES", x.status(0), is ? 1 : 0);
            }
        }
        TwoWhistlesAndFiveEwes x = new TwoWhistlesAndFiveEwes();
        for (int e = 0; e < 5; e++) {
            DUE.is("13: all in one CELL, number " + e, x.ewe(e, e, 44), e);
        }
        for (int i = 0; i < 3; i++) {
            DUE.is("13: FULL", x.ewe(0, 0, 44), -6);
            DUE.is("49: five", x.status(0), 5);
            DUE.is("49: FULL, counted", x.status(16), i + 1);
        }
        DUE.is("19: the fifth", x.eweOf(4, 0), 4);
        DUE.is("19: no sixth", x.eweOf(5, 0), -2);
    }

    /** "A EWE in THE PEN's CELL is IN"; 14: "A EWE is at a CELL: where it was". */
    private static void moves() {
        TwoWhistlesAndFiveEwes x = new TwoWhistlesAndFiveEwes();
        x.ewe(0, 0, 33);
        x.ewe(0, 0, 0);
        x.wall(22, true);
        DUE.is("19: not IN", x.eweOf(0, 3), 0);
        DUE.is("19: IN as it comes", x.eweOf(1, 3), 1);
        DUE.is("14: where it is", x.move(0, 33), 33);
        DUE.is("14: to another EWE, into THE PEN", x.move(0, 0), 33);
        DUE.is("19: IN", x.eweOf(0, 3), 1);
        DUE.is("49: both IN", x.status(6), 2);
        DUE.is("14: at a WALL", x.move(0, 22), -5);
        DUE.is("14: out of THE PEN again", x.move(0, 1), 0);
        DUE.is("49: one IN", x.status(6), 1);
        DUE.is("14: to THE DOG", x.move(0, 55), 1);
        DUE.is("14: no such EWE", x.move(2, 33), -2);
    }

    /** "WIND (0 to 12; 2 at first)"; 15: "what it was". */
    private static void winds() {
        TwoWhistlesAndFiveEwes x = new TwoWhistlesAndFiveEwes();
        int was = 2;
        for (int v = -3; v <= 15; v++) {
            boolean is = v >= 0 && v <= 12;
            DUE.is("15: wind(" + v + ")", x.wind(v), is ? was : -2);
            was = is ? v : was;
            DUE.is("49: WIND", x.status(4), was);
        }
    }

    /** "THE TAPE (bytes, 250 at most)"; 16: "one byte (0 to 255) .. its size"; 17: "its size ahead". */
    private static void tapes() {
        TwoWhistlesAndFiveEwes x = new TwoWhistlesAndFiveEwes();
        for (int letter = -1; letter <= 248; letter++) {
            DUE.is("16: feed(" + letter + ")", x.feed(letter), letter < 0 ? -2 : letter + 1);
        }
        DUE.is("17: its size ahead", x.wipe(), 249);
        for (int letter = 249; letter <= 256; letter++) {
            DUE.is("16: feed(" + letter + ")", x.feed(letter), letter > 255 ? -2 : letter - 248);
        }
        DUE.is("49: THE TAPE's size", x.status(9), 7);
        x = new TwoWhistlesAndFiveEwes();
        for (int i = 1; i <= 250; i++) {
            DUE.is("16: byte " + i, x.feed('a'), i);
        }
        for (int i = 1; i <= 3; i++) {
            DUE.is("16: byte 251", x.feed('a'), -6);
            DUE.is("49: THE TAPE's size", x.status(9), 250);
            DUE.is("49: FULL, counted", x.status(16), i);
        }
        DUE.is("17: full ahead", x.wipe(), 250);
        DUE.is("17: empty ahead", x.wipe(), 0);
        DUE.is("16: from the beginning", x.feed('a'), 1);
    }

    /** "STEPS between two CELLS: differences of ROWS and COLUMNS together"; 19: from THE DOG (4), from THE PEN (5). */
    private static void steps() {
        int[][] due = {{0, 66, 12}, {66, 0, 12}, {6, 60, 12}, {60, 6, 12}, {33, 33, 0}, {33, 34, 1}, {33, 43, 1}, {33, 44, 2},
            {10, 1, 2}, {15, 20, 6}, {20, 15, 6}, {5, 50, 10}};
        for (int[] d : due) {
            TwoWhistlesAndFiveEwes x = ofSide(7);
            x.pen(32);
            x.ewe(0, 0, d[0]);
            x.dog(d[1]);
            DUE.is("19: STEPS from THE DOG, " + d[0] + " from " + d[1], x.eweOf(0, 4), d[2]);
            x.dog(31);
            x.move(0, 30);
            x.pen(d[1]);
            x.move(0, d[0]);
            DUE.is("19: STEPS from THE PEN, " + d[0] + " from " + d[1], x.eweOf(0, 5), d[2]);
            DUE.is("19: IN", x.eweOf(0, 3), d[2] == 0 ? 1 : 0);
        }
    }

    public static void main(String[] args) {
        cells();
        cellsOfAllCalls(6, SIX_GOOD, SIX_BAD);
        cellsOfAllCalls(7, SEVEN_GOOD, SEVEN_BAD);
        sides();
        largerSide();
        wallsEverywhere();
        wallsWhereSomethingWas();
        pens();
        dogs();
        ewes();
        moves();
        winds();
        tapes();
        steps();
        DUE.end();
    }
}
