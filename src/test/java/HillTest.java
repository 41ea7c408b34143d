/** Promises 9 to 20: what there is on the hill, and hills read from texts. */
public final class HillTest {
    private static final Due DUE = new Due("HillTest");

    private static TwoWhistlesAndFiveEwes fresh() {
        return new TwoWhistlesAndFiveEwes();
    }

    private static void side() {
        TwoWhistlesAndFiveEwes x = fresh();
        DUE.is("9: BAD CELL on SIDE 6", x.wall(66, true), -2);
        DUE.is("9: side(6)", x.side(6), 6);
        for (int n : new int[] {5, 3, 2, 8, -1, Integer.MAX_VALUE, Integer.MIN_VALUE}) {
            DUE.is("9: side(" + n + ")", x.side(n), -2);
        }
        DUE.is("9: side(7)", x.side(7), 6);
        DUE.is("9: side(6) then", x.side(6), -2);
        DUE.is("9: side(7) then", x.side(7), 7);
        DUE.is("9: a CELL on SIDE 7", x.wall(66, true), 0);
        DUE.is("9: BAD CELL on SIDE 7", x.wall(67, true), -2);
        DUE.is("9: THE DOG stays", x.status(3), 55);
    }

    private static void wall() {
        TwoWhistlesAndFiveEwes x = fresh();
        x.ewe(0, 0, 22);
        DUE.is("10: put", x.wall(33, true), 0);
        DUE.is("10: put again", x.wall(33, true), 1);
        DUE.is("20: hasWall(33)", x.hasWall(33), 1);
        DUE.is("20: hasWall(34)", x.hasWall(34), 0);
        DUE.is("10: one WALL", x.status(7), 1);
        DUE.is("10: taken", x.wall(33, false), 1);
        DUE.is("10: taken again", x.wall(33, false), 0);
        DUE.is("20: hasWall(33) then", x.hasWall(33), 0);
        for (int cell : new int[] {0, 55, 22}) {
            DUE.is("10: a WALL at " + cell, x.wall(cell, true), -5);
            DUE.is("10: none at " + cell, x.wall(cell, false), 0);
        }
        for (int cell : new int[] {-1, 6, 60, 9, 100, Integer.MAX_VALUE, Integer.MIN_VALUE}) {
            DUE.is("10: wall(" + cell + ")", x.wall(cell, true), -2);
            DUE.is("10: none at " + cell, x.wall(cell, false), -2);
            DUE.is("20: hasWall(" + cell + ")", x.hasWall(cell), -2);
        }
        DUE.is("10: STUCK, counted", x.status(15), 3);
        DUE.is("10: BAD, counted", x.status(12), 21);
        DUE.is("10: no WALLS", x.status(7), 0);
    }

    private static void pen() {
        TwoWhistlesAndFiveEwes x = fresh();
        x.wall(22, true);
        x.ewe(0, 0, 33);
        DUE.is("11: where it is", x.pen(0), 0);
        DUE.is("11: pen(11)", x.pen(11), 0);
        DUE.is("11: pen(44)", x.pen(44), 11);
        for (int cell : new int[] {22, 33, 55}) {
            DUE.is("11: pen(" + cell + ")", x.pen(cell), -5);
        }
        for (int cell : new int[] {-1, 6, 60}) {
            DUE.is("11: pen(" + cell + ")", x.pen(cell), -2);
        }
        x.move(0, 44);
        DUE.is("11: a EWE is IN, there", x.pen(44), -5);
        DUE.is("11: a EWE is IN, elsewhere", x.pen(11), -5);
        DUE.is("11: it stays", x.status(2), 44);
        x.move(0, 11);
        DUE.is("11: none is IN any more", x.pen(1), 44);
    }

    private static void dog() {
        TwoWhistlesAndFiveEwes x = fresh();
        x.wall(22, true);
        x.ewe(0, 0, 33);
        DUE.is("12: where it is", x.dog(55), 55);
        DUE.is("12: with a EWE", x.dog(33), 55);
        DUE.is("12: dog(1)", x.dog(1), 33);
        DUE.is("12: at a WALL", x.dog(22), -5);
        DUE.is("12: at THE PEN", x.dog(0), -5);
        for (int cell : new int[] {-1, 6, 60}) {
            DUE.is("12: dog(" + cell + ")", x.dog(cell), -2);
        }
        DUE.is("12: it is there", x.status(3), 1);
        DUE.is("12: no TURN", x.status(5), 0);
    }

    private static void ewe() {
        TwoWhistlesAndFiveEwes x = fresh();
        x.wall(22, true);
        DUE.is("13: ewe(0, 0, 1)", x.ewe(0, 0, 1), 0);
        DUE.is("13: BAD ahead of STUCK", x.ewe(6, 0, 22), -2);
        int[][] bad = {{-1, 0, 1}, {6, 0, 1}, {0, -1, 1}, {0, 10, 1}, {0, 0, -1}, {0, 0, 6}, {0, 0, 60}};
        for (int[] b : bad) {
            DUE.is("13: ewe(" + b[0] + ", " + b[1] + ", " + b[2] + ")", x.ewe(b[0], b[1], b[2]), -2);
        }
        DUE.is("13: at a WALL", x.ewe(0, 0, 22), -5);
        DUE.is("13: at another EWE", x.ewe(5, 9, 1), 1);
        DUE.is("13: at THE DOG", x.ewe(4, 3, 55), 2);
        DUE.is("13: at THE PEN", x.ewe(3, 2, 0), 3);
        DUE.is("13: the fifth", x.ewe(1, 2, 44), 4);
        DUE.is("13: FULL", x.ewe(1, 2, 44), -6);
        DUE.is("13: STUCK ahead of FULL", x.ewe(1, 2, 22), -5);
        DUE.is("13: BAD ahead of FULL", x.ewe(1, 10, 44), -2);
        DUE.is("13: five", x.status(0), 5);
        DUE.is("13: one IN", x.status(6), 1);
        long[][] of = {{0, 0, 1, 0, 9, 1}, {5, 9, 1, 0, 9, 1}, {4, 3, 55, 0, 0, 10}, {3, 2, 0, 1, 10, 0}, {1, 2, 44, 0, 2, 8}};
        for (int e = 0; e < 5; e++) {
            for (int what = 0; what < 6; what++) {
                DUE.is("19: eweOf(" + e + ", " + what + ")", x.eweOf(e, what), of[e][what]);
            }
        }
        int[][] badOf = {{-1, 0}, {5, 0}, {0, -1}, {0, 6}, {Integer.MAX_VALUE, 0}, {0, Integer.MIN_VALUE}};
        for (int[] b : badOf) {
            DUE.is("19: eweOf(" + b[0] + ", " + b[1] + ")", x.eweOf(b[0], b[1]), -2);
        }
    }

    private static void move() {
        TwoWhistlesAndFiveEwes x = fresh();
        x.wall(22, true);
        x.ewe(0, 0, 1);
        DUE.is("14: move(0, 55)", x.move(0, 55), 1);
        DUE.is("14: into THE PEN", x.move(0, 0), 55);
        DUE.is("14: IN", x.status(6), 1);
        DUE.is("14: out of it", x.move(0, 33), 0);
        DUE.is("14: not IN", x.status(6), 0);
        DUE.is("14: at a WALL", x.move(0, 22), -5);
        DUE.is("14: no such EWE", x.move(1, 1), -2);
        DUE.is("14: no such EWE, at a WALL", x.move(-1, 22), -2);
        DUE.is("14: no CELL", x.move(0, 6), -2);
        DUE.is("14: it is there", x.eweOf(0, 2), 33);
    }

    private static void windAndTape() {
        TwoWhistlesAndFiveEwes x = fresh();
        DUE.is("15: wind(12)", x.wind(12), 2);
        DUE.is("15: wind(0)", x.wind(0), 12);
        DUE.is("15: wind(13)", x.wind(13), -2);
        DUE.is("15: wind(-1)", x.wind(-1), -2);
        DUE.is("15: WIND", x.status(4), 0);
        DUE.is("16: feed(-1)", x.feed(-1), -2);
        DUE.is("16: feed(256)", x.feed(256), -2);
        DUE.is("16: feed(0)", x.feed(0), 1);
        DUE.is("16: feed(255)", x.feed(255), 2);
        DUE.is("17: wipe()", x.wipe(), 2);
        DUE.is("17: wipe() then", x.wipe(), 0);
        for (int i = 1; i <= 250; i++) {
            DUE.is("16: feed", x.feed(32), i);
        }
        DUE.is("16: FULL", x.feed(32), -6);
        DUE.is("16: BAD ahead of FULL", x.feed(256), -2);
        DUE.is("16: THE TAPE's size", x.status(9), 250);
        DUE.is("18: blanks alone", x.hill(), -270);
        DUE.is("18: THE TAPE is empty", x.status(9), 0);
    }

    private static void faults() {
        Object[][] due = {
            {"", -20}, {"   ", -23}, {";", -20}, {"side", -24}, {"side ", -25}, {"side 7;", -27}, {"side 7; ", -28},
            {";side 7", -20}, {"side 7;;side 7", -27}, {"side 7 ; ;", -29}, {"sidee 7", -20}, {"sid 7", -20}, {"Side 7", -20},
            {" Side 7", -21}, {"side 7 7", -27}, {"side 007", -25}, {"side 5", -25}, {"side 8", -25}, {"side x", -25},
            {"side ;", -25}, {"side 7x", -26}, {"side -7", -25}, {"wa ll 1", -20}, {"wall 1#", -26}, {"wall 1 wall 2", -27},
            {"wall 1:", -26}, {"wall 1/", -26}, {"wall `", -25}, {"wall {", -25}, {"wall\t1", -24}, {"wall \u00e9", -25},
            {"walls 1", -20}, {"wallz 1", -20}, {"tall 1", -20}, {"well 1", -20}, {"walk 1", -20}, {"wall 0", -25}, {"wall 55", -25}, {"wall 6", -25}, {"wall 60", -25}, {"wall 123", -25},
            {"gap 60", -24}, {"gap 6", -24}, {"pen 55", -24}, {"pen 6", -24}, {"wall 1;pen 1", -31}, {"ewe 0 0 1;pen 1", -34},
            {"dog 0", -24}, {"dog 60", -24}, {"wall 1;dog 1", -31}, {"dog 1;pen 1", -30}, {"dog 1;wall 1", -31},
            {"ewe", -23}, {"ewe 0", -25}, {"ewe 0 0", -27}, {"ewe 0 0;", -27}, {"ewe 6 0 1", -24}, {"ewe 001 0 1", -24},
            {"ewe 0 10 1", -26}, {"ewe 0 0 6", -28}, {"ewe 0,0 1", -25}, {"ewe 0;0 1", -25}, {"ewe 0 0 1 1", -30},
            {"ewe 001", -24}, {"wall 1;ewe 0 0 1", -35}, {"ewe 0 0 1;wall 1", -35}, {"wind 13", -25}, {"wind", -24},
            {"wind 100", -25}, {"dog 66;side 7", -24}, {"dog 0;pen 11", -24}, {"wall 1;wall 55", -32},
            {"ewe 0 0 0;pen 11", -34}, {"ewe 0 0 0;pen 0", -34}, {"ewe 0 0 0;pen 123", -34}, {"ewe 0 0 0;pen", -33},
            {"pen 11;ewe 0 0 11;pen 22", -42}, {"ewe 0 0 1;ewe 0 0 0;pen 11", -44},
            {"ewe 0 0 1;ewe 0 0 1;ewe 0 0 1;ewe 0 0 1;ewe 0 0 1;ewe 9 9 99", -70},
            {"ewe 0 0 1;ewe 0 0 1;ewe 0 0 1;ewe 0 0 1;ewe 0 0 1; ewe", -71},
        };
        TwoWhistlesAndFiveEwes x = fresh();
        for (int i = 0; i < due.length; i++) {
            // an object is good for 512 calls
            if (i % 10 == 0) {
                x = fresh();
            }
            int refused = x.status(12);
            DUE.is("18: hill of '" + due[i][0] + "'", Due.hill(x, (String) due[i][0]), (Integer) due[i][1]);
            DUE.is("18: refused", x.status(12), refused + 1);
            DUE.is("18: THE TAPE is empty", x.status(9), 0);
            long[] was = {0, 6, 0, 55, 2};
            for (int what = 0; what < was.length; what++) {
                DUE.is("18: nothing came, status(" + what + ")", x.status(what), was[what]);
            }
            DUE.is("18: no WALLS came", x.status(7), 0);
        }
    }

    private static void hills() {
        TwoWhistlesAndFiveEwes x = fresh();
        DUE.is("18: side7", Due.hill(x, "side7"), 1);
        DUE.is("18: SIDE", x.status(1), 7);
        DUE.is("18: no blanks", Due.hill(x, "wall1;wall02;wind 00"), 3);
        DUE.is("18: WALLS", x.hasWall(1) + x.hasWall(2), 2);
        DUE.is("18: WIND", x.status(4), 0);
        DUE.is("18: many blanks", Due.hill(x, "  gap   1  ;  pen  11 ; dog 0  "), 3);
        DUE.is("18: gap", x.hasWall(1), 0);
        DUE.is("18: THE PEN", x.status(2), 11);
        DUE.is("18: THE DOG", x.status(3), 0);
        DUE.is("18: a gap where there is none", Due.hill(x, "gap 1;wall 2;side 7"), 3);
        DUE.is("18: one WALL", x.status(7), 1);
        DUE.is("18: EWES", Due.hill(x, "ewe 5 9 66;ewe 4 00 11"), 2);
        DUE.is("18: KIND", x.eweOf(0, 0), 5);
        DUE.is("18: a", x.eweOf(0, 1), 9);
        DUE.is("18: CELL", x.eweOf(0, 2), 66);
        DUE.is("18: one IN", x.status(6), 1);
        DUE.is("18: to what there is", Due.hill(x, "ewe 3 1 5"), 1);
        DUE.is("18: three EWES", x.status(0), 3);
        DUE.is("18: one behind the other", Due.hill(x, "wall 33;gap 33;dog 33;wall 0"), 4);
        DUE.is("18: THE DOG then", x.status(3), 33);
        DUE.is("18: the most WIND", Due.hill(x, "wind 12"), 1);
        DUE.is("18: the most WIND", x.status(4), 12);
        DUE.is("18: no refusals", x.status(12), 0);
        DUE.is("18: no TURNS", x.status(5), 0);
    }

    private static void penStatementWhileAEweIsIn() {
        TwoWhistlesAndFiveEwes x = fresh();
        DUE.is("18: THE PEN goes ahead of the EWE", Due.hill(x, "pen 11;ewe 5 9 0;pen 22;pen 11"), 4);
        DUE.is("18: none is IN", x.status(6), 0);
        x.ewe(0, 0, 11);
        DUE.is("18: a EWE is IN, elsewhere", Due.hill(x, "pen1"), -23);
        DUE.is("18: a EWE is IN, there", Due.hill(x, "pen 11"), -24);
        DUE.is("18: with all else of the HILL", Due.hill(x, "wind 9;pen 22;side 7"), -31);
        DUE.is("18: refused", x.status(12), 3);
        DUE.is("18: never STUCK", x.status(15), 0);
        DUE.is("18: THE PEN stays", x.status(2), 11);
        DUE.is("18: it is IN still", x.eweOf(1, 3), 1);
        DUE.is("18: WIND stays", x.status(4), 2);
        x.move(1, 12);
        DUE.is("18: none is IN any more", Due.hill(x, "pen 22"), 1);
        DUE.is("18: THE PEN went", x.status(2), 22);
    }

    private static void fullTape() {
        TwoWhistlesAndFiveEwes x = fresh();
        StringBuilder text = new StringBuilder();
        while (text.length() < 244) {
            text.append("gap 5;");
        }
        text.setLength(244);
        text.append("wind 3");
        DUE.is("18: a long TAPE", Due.hill(x, text.toString()), -264);
        text.setLength(240);
        text.append("    wind 3");
        DUE.is("18: a full TAPE", Due.hill(x, text.toString()), 41);
        DUE.is("18: its last STATEMENT", x.status(4), 3);
    }

    public static void main(String[] args) {
        side();
        wall();
        pen();
        dog();
        ewe();
        move();
        windAndTape();
        faults();
        hills();
        penStatementWhileAEweIsIn();
        fullTape();
        DUE.end();
    }
}
