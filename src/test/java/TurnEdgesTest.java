/** The edges that part 2 of the terms names, A TURN: each distance, each hindrance, each tie. */
public final class TurnEdgesTest {
    private static final Due DUE = new Due("TurnEdgesTest");
    private static final int MOOR = 1;
    private static final int OLD = 2;
    private static final int WILD = 3;
    private static final int STUBBORN = 4;
    private static final int LEADER = 5;

    /** How many CELLS each KIND goes from THE DOG so many STEPS away, on open ground. */
    private static int goes(int kind, int a, int away) {
        switch (kind) {
            case MOOR: return away <= 2 ? 2 : away == 3 ? 1 : 0;
            case OLD: return away == 2 || away == 3 ? 1 : 0;
            case WILD: return away <= 3 ? 3 : away == 4 ? 2 : away == 5 ? 1 : 0;
            case STUBBORN: return away == 3 ? 1 : 0;
            case LEADER: return away <= a ? 1 : 0;
            default: return away <= 3 ? 1 : 0;
        }
    }

    /** "if THE DOG is 3 STEPS away or fewer", "1 STEP", "2 STEPS", "each if .. then", "5 STEPS", "a STEPS". */
    private static void distances() {
        for (int kind = 0; kind <= 5; kind++) {
            for (int a = 0; a <= 9; a++) {
                for (int away = 0; away <= 9; away++) {
                    TwoWhistlesAndFiveEwes x = Starts.large(60, 0);
                    int column = Math.min(away, 4);
                    x.ewe(kind, a, 10 * (away - column) + column);
                    String why = "2: KIND " + kind + ", a " + a + ", " + away + " STEPS away";
                    DUE.is(why, x.eweOf(0, 4), away);
                    int steps = goes(kind, a, away);
                    DUE.is(why + ", MOVED", x.ewes(3), steps > 0 ? 1 : 0);
                    x.turn(0);
                    DUE.is(why + ", then", x.eweOf(0, 4), away + steps);
                }
            }
        }
        for (int away = 10; away <= 12; away++) {
            TwoWhistlesAndFiveEwes x = Starts.large(60, 0);
            x.ewe(LEADER, 9, 60 + away - 6);
            x.turn(0);
            DUE.is("2: a LEADER " + away + " STEPS away", x.eweOf(0, 4), away);
        }
    }

    private static void comesTo(String why, TwoWhistlesAndFiveEwes x, int ewe, int due) {
        x.turn(0);
        DUE.is("2: " + why, x.eweOf(ewe, 2), due);
    }

    /** "(a ROW less, a ROW more, a COLUMN less, a COLUMN more) that are of the hill, have no WALL, and are farther .. the first; none: it stays". */
    private static void theFirstWithoutAWall() {
        int[][] due = {{53, 23, 32, 34}, {13, 43, 32, 34}, {31, 23, 43, 34}, {35, 23, 43, 32}, {42, 23, 34, 33}, {24, 43, 32, 33},
            {22, 43, 34, 33}, {44, 23, 32, 33}};
        for (int[] d : due) {
            TwoWhistlesAndFiveEwes x = Starts.large(60, d[0]);
            x.ewe(0, 0, 33);
            for (int i = 1; i <= 3; i++) {
                comesTo("THE DOG at " + d[0] + ", " + (i - 1) + " WALLS", x, 0, d[i]);
                x.move(0, 33);
                x.wall(d[i], true);
            }
            comesTo("THE DOG at " + d[0] + ", none", x, 0, 33);
            DUE.is("34: held", x.held(), 1);
        }
        TwoWhistlesAndFiveEwes x = Starts.large(60, 33);
        x.ewe(0, 0, 33);
        int[] order = {23, 43, 32, 34, 33};
        for (int to : order) {
            comesTo("THE DOG on its CELL", x, 0, to);
            x.move(0, 33);
            x.wall(to, true);
        }
    }

    /** "of the hill": on each border, and by the SIDE that there is. */
    private static void borders() {
        int[][] due = {{3, 13, 2}, {63, 53, 62}, {30, 31, 20}, {36, 35, 26}, {0, 11, 0}, {6, 15, 6}, {60, 51, 60}, {66, 55, 66},
            {0, 1, 10}, {66, 56, 65}, {6, 5, 16}, {60, 50, 61}};
        for (int[] d : due) {
            TwoWhistlesAndFiveEwes x = Starts.large(33, d[1]);
            x.ewe(0, 0, d[0]);
            comesTo("at the border, " + d[0] + " from " + d[1], x, 0, d[2]);
        }
        TwoWhistlesAndFiveEwes x = new TwoWhistlesAndFiveEwes();
        x.ewe(WILD, 0, 55);
        x.dog(44);
        comesTo("in the corner of SIDE 6", x, 0, 55);
        x.side(7);
        comesTo("no corner on SIDE 7", x, 0, 66);
    }

    /** MOOR and WILD: each time anew, until none is farther. */
    private static void laterTimes() {
        TwoWhistlesAndFiveEwes x = Starts.large(60, 53);
        x.ewe(WILD, 0, 33);
        x.ewe(MOOR, 0, 33);
        x.wall(13, true);
        x.turn(0);
        DUE.is("2: a WILD one goes round", x.eweOf(0, 2), 12);
        DUE.is("2: a MOOR one goes round", x.eweOf(1, 2), 22);
        x = Starts.large(60, 53);
        x.ewe(WILD, 0, 33);
        x.ewe(MOOR, 0, 33);
        x.wall(13, true);
        x.wall(22, true);
        x.wall(24, true);
        x.turn(0);
        DUE.is("2: a WILD one stays behind the first time", x.eweOf(0, 2), 23);
        DUE.is("2: a MOOR one stays behind the first time", x.eweOf(1, 2), 23);
    }

    /** "What comes to THE PEN's CELL is IN at once", also half-way. */
    private static void inAtOnce() {
        int[][] due = {{0, 23, 23}, {MOOR, 23, 23}, {MOOR, 13, 13}, {MOOR, 3, 13}, {WILD, 23, 23}, {WILD, 13, 13}, {WILD, 3, 3},
            {OLD, 23, 23}, {LEADER, 23, 23}};
        for (int[] d : due) {
            TwoWhistlesAndFiveEwes x = Starts.large(d[1], 53);
            x.ewe(d[0], 9, 33);
            String why = "2: KIND " + d[0] + ", THE PEN at " + d[1];
            DUE.is(why + ", how many are IN", x.turn(0), d[1] == d[2] ? 1 : 0);
            DUE.is(why, x.eweOf(0, 2), d[2]);
        }
    }

    /** "A EWE in THE PEN's CELL is IN (and stays there)", however near THE DOG is. */
    private static void staysIn() {
        for (int kind = 0; kind <= 5; kind++) {
            TwoWhistlesAndFiveEwes x = Starts.large(33, 53);
            x.ewe(kind, 9, 33);
            for (int dog : new int[] {53, 43, 34, 32, 23, 30, 63}) {
                x.dog(dog);
                DUE.is("2: KIND " + kind + " is IN", x.turn(0), 1);
                DUE.is("2: and stays there", x.eweOf(0, 2), 33);
            }
        }
    }

    /** "to that nearest to THE LEADER .. of several, or without one, the first"; a LEADER "to that nearest to THE PEN". */
    private static void nearestTo() {
        // THE DOG at 53: 23, 32 and 34 are farther
        int[][] due = {{30, 32}, {36, 34}, {3, 23}, {66, 34}, {60, 32}, {0, 23}, {6, 23}, {33, 23}, {43, 23}, {63, 23}, {10, 23}, {20, 23},
            {26, 23}, {16, 23}, {1, 23}, {5, 23}, {40, 32}, {46, 34}};
        for (int[] d : due) {
            TwoWhistlesAndFiveEwes x = Starts.large(45, 53);
            x.ewe(0, 0, 33);
            x.ewe(LEADER, 0, d[0]);
            comesTo("the LEADER at " + d[0], x, 0, d[1]);
            if (d[0] != 33) {
                x = Starts.large(d[0], 53);
                x.ewe(LEADER, 9, 33);
                comesTo("a LEADER, THE PEN at " + d[0], x, 0, d[1]);
            }
        }
        TwoWhistlesAndFiveEwes x = Starts.large(63, 53);
        x.wall(23, true);
        x.ewe(LEADER, 9, 33);
        comesTo("a LEADER, of several the first, a WALL being in the first", x, 0, 32);
    }

    /** "likewise": all KINDS but a LEADER keep to THE LEADER, each time they go. */
    private static void allKeepToTheLeader() {
        int[] to = {32, 31, 32, 30, 33};
        for (int kind = 0; kind < LEADER; kind++) {
            TwoWhistlesAndFiveEwes x = Starts.large(66, 53);
            x.ewe(kind, 0, 33);
            x.ewe(LEADER, 0, 30);
            comesTo("KIND " + kind + " keeps to the LEADER", x, 0, to[kind]);
        }
        TwoWhistlesAndFiveEwes x = Starts.large(66, 63);
        x.ewe(STUBBORN, 0, 33);
        x.ewe(LEADER, 0, 30);
        comesTo("a STUBBORN one keeps to the LEADER", x, 0, 32);
        x = Starts.large(6, 53);
        x.ewe(LEADER, 9, 33);
        x.ewe(LEADER, 0, 30);
        comesTo("a LEADER keeps to none", x, 0, 23);
    }

    /** "(the first other EWE of KIND LEADER that isn't IN)". */
    private static void theFirstLeader() {
        TwoWhistlesAndFiveEwes x = Starts.large(66, 53);
        x.ewe(LEADER, 0, 36);
        x.ewe(0, 0, 33);
        x.ewe(LEADER, 0, 30);
        comesTo("the first LEADER, ahead of it", x, 1, 34);
        x.move(1, 33);
        x.move(0, 66);
        comesTo("the first is IN: the second, behind it", x, 1, 32);
        x.move(1, 33);
        x.move(2, 66);
        comesTo("both are IN: none", x, 1, 23);
        x.move(1, 33);
        x.move(2, 36);
        comesTo("the second again", x, 1, 34);
        x = Starts.large(66, 53);
        x.ewe(0, 0, 33);
        x.ewe(0, 0, 30);
        x.ewe(MOOR, 0, 30);
        x.ewe(WILD, 0, 60);
        comesTo("EWES of other KINDS lead none", x, 0, 23);
    }

    /** "Then, by numbers, each EWE": a LEADER that comes IN leads those behind it no more. */
    private static void byNumbers() {
        TwoWhistlesAndFiveEwes x = Starts.large(20, 33);
        x.ewe(0, 0, 23);
        x.ewe(LEADER, 9, 21);
        x.ewe(0, 0, 23);
        x.turn(0);
        DUE.is("2: the LEADER came IN", x.eweOf(1, 3), 1);
        DUE.is("2: the one ahead of it kept to it", x.eweOf(0, 2), 22);
        DUE.is("2: the one behind it has none to keep to", x.eweOf(2, 2), 13);
    }

    /** "THE DOG goes so .. Then .. each EWE": from where THE DOG is then. */
    private static void dogFirst() {
        TwoWhistlesAndFiveEwes x = Starts.large(60, 36);
        x.ewe(0, 0, 32);
        DUE.is("2: 4 STEPS away", x.eweOf(0, 4), 4);
        x.turn(0);
        DUE.is("2: it stays", x.eweOf(0, 2), 32);
        x.turn(3);
        DUE.is("2: 3 STEPS then: it goes", x.eweOf(0, 2), 22);
        x.move(0, 32);
        x.turn(4);
        DUE.is("2: 4 STEPS then: it stays", x.eweOf(0, 2), 32);
    }

    /** "if it is a CELL of the hill without a WALL and not THE PEN; else it CAN'T (and stays)". */
    private static void whatTheDogCanDo() {
        // THE PEN is at 33, a WALL at 35
        int[][] due = {{0, 1, 0, 1, 0, 1}, {3, 1, 0, 1, 1, 1}, {6, 1, 0, 1, 1, 0}, {30, 1, 1, 1, 0, 1}, {36, 1, 1, 1, 0, 0},
            {60, 1, 1, 0, 0, 1}, {63, 1, 1, 0, 1, 1}, {66, 1, 1, 0, 1, 0}, {23, 1, 1, 0, 1, 1}, {43, 1, 0, 1, 1, 1}, {32, 1, 1, 1, 1, 0},
            {34, 1, 1, 1, 0, 0}, {25, 1, 1, 0, 1, 1}, {45, 1, 0, 1, 1, 1}, {44, 1, 1, 1, 1, 1}, {55, 1, 1, 1, 1, 1}};
        TwoWhistlesAndFiveEwes x = Starts.large(33, 50);
        x.wall(35, true);
        for (int[] d : due) {
            for (int command = 0; command < 5; command++) {
                x.dog(d[0]);
                boolean can = d[1 + command] == 1;
                DUE.is("2: at " + d[0] + ", COMMAND " + command, x.turn(command), can ? 0 : -5);
                int[] ways = {0, -10, 10, -1, 1};
                DUE.is("2: THE DOG then", x.status(3), can ? d[0] + ways[command] : d[0]);
            }
        }
        TwoWhistlesAndFiveEwes y = new TwoWhistlesAndFiveEwes();
        DUE.is("2: off SIDE 6", y.turn(4), -5);
        y.side(7);
        DUE.is("2: on SIDE 7", y.turn(4), 0);
        DUE.is("2: THE DOG there", y.status(3), 56);
    }

    public static void main(String[] args) {
        distances();
        theFirstWithoutAWall();
        borders();
        laterTimes();
        inAtOnce();
        staysIn();
        nearestTo();
        allKeepToTheLeader();
        theFirstLeader();
        byNumbers();
        dogFirst();
        whatTheDogCanDo();
        DUE.end();
    }
}
