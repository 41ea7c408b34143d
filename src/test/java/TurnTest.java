/** Part 2 of the terms, A TURN, and promise 44. */
public final class TurnTest {
    private static final Due DUE = new Due("TurnTest");

    private static final int EWE = 0;
    private static final int MOOR = 1;
    private static final int OLD = 2;
    private static final int WILD = 3;
    private static final int STUBBORN = 4;
    private static final int LEADER = 5;

    /** Where a EWE comes in a TURN in which THE DOG stays. */
    private static void goes(String why, int kind, int a, int cell, int dog, int to) {
        TwoWhistlesAndFiveEwes x = new TwoWhistlesAndFiveEwes();
        x.ewe(kind, a, cell);
        x.dog(dog);
        x.turn(0);
        DUE.is(why + ": KIND " + kind + " at " + cell + ", THE DOG at " + dog, x.eweOf(0, 2), to);
    }

    private static void kinds() {
        goes("farther, the first", EWE, 0, 33, 30, 23);
        goes("4 STEPS", EWE, 0, 33, 20, 33);
        goes("1 STEP", EWE, 0, 33, 32, 23);
        goes("0 STEPS", EWE, 0, 33, 33, 23);
        goes("no ROW less: THE DOG is there", EWE, 0, 33, 23, 43);
        goes("a COLUMN less", EWE, 0, 50, 51, 40);
        goes("no ROW less nor more", EWE, 0, 3, 14, 2);
        goes("a COLUMN more", EWE, 0, 3, 12, 4);
        goes("in the corner", EWE, 0, 5, 14, 5);
        goes("old 3", OLD, 0, 33, 30, 23);
        goes("old 2", OLD, 0, 33, 31, 23);
        goes("old 1", OLD, 0, 33, 32, 33);
        goes("old 0", OLD, 0, 33, 33, 33);
        goes("old 4", OLD, 0, 33, 20, 33);
        goes("stubborn 3", STUBBORN, 0, 33, 30, 23);
        goes("stubborn 2", STUBBORN, 0, 33, 31, 33);
        goes("stubborn 1", STUBBORN, 0, 33, 32, 33);
        goes("stubborn 4", STUBBORN, 0, 33, 20, 33);
        goes("moor 3, once", MOOR, 0, 33, 30, 23);
        goes("moor 2, twice", MOOR, 0, 33, 31, 13);
        goes("moor 4", MOOR, 0, 33, 20, 33);
        goes("wild 2, three times", WILD, 0, 33, 31, 3);
        goes("wild 4, twice", WILD, 0, 33, 20, 53);
        goes("wild 5, once", WILD, 0, 33, 10, 43);
        goes("wild 6", WILD, 0, 44, 20, 44);
        goes("moor 0, twice", MOOR, 0, 33, 33, 13);
        goes("wild 0, three times", WILD, 0, 33, 33, 3);
        goes("leader 2 of 9, once", LEADER, 9, 33, 31, 23);
        goes("leader 3 of 3", LEADER, 3, 33, 30, 23);
        goes("leader 4 of 3", LEADER, 3, 33, 20, 33);
        goes("leader 9 STEPS", LEADER, 9, 44, 1, 54);
        goes("leader 8 STEPS of 6", LEADER, 6, 44, 1, 44);
        goes("leader 0 of 0", LEADER, 0, 33, 33, 23);
        goes("leader 1 of 0", LEADER, 0, 33, 32, 33);
        goes("leader to THE PEN, not the first", LEADER, 3, 32, 23, 31);
    }

    private static void toTheLeader() {
        TwoWhistlesAndFiveEwes x = new TwoWhistlesAndFiveEwes();
        x.ewe(EWE, 0, 33);
        x.ewe(LEADER, 0, 45);
        x.ewe(LEADER, 0, 3);
        x.dog(30);
        DUE.is("to the first LEADER, of several the first", x.ewes(3), 1);
        x.turn(0);
        DUE.is("to the first LEADER, of several the first: CELL", x.eweOf(0, 2), 43);
        x.move(0, 33);
        x.move(1, 0);
        x.turn(0);
        DUE.is("a LEADER that is IN leads none", x.eweOf(0, 2), 23);
        x.move(0, 33);
        x.move(2, 15);
        x.turn(0);
        DUE.is("to the second", x.eweOf(0, 2), 23);
        x.move(0, 33);
        x.move(2, 35);
        x.turn(0);
        DUE.is("to the second, in its ROW", x.eweOf(0, 2), 34);
    }

    private static void leaderItself() {
        TwoWhistlesAndFiveEwes x = new TwoWhistlesAndFiveEwes();
        x.ewe(LEADER, 9, 33);
        x.ewe(LEADER, 0, 45);
        x.dog(30);
        x.turn(0);
        DUE.is("a LEADER goes to THE PEN, not to a LEADER", x.eweOf(0, 2), 23);
        x = new TwoWhistlesAndFiveEwes();
        x.pen(54);
        x.ewe(LEADER, 9, 33);
        x.dog(30);
        x.turn(0);
        DUE.is("of several nearest to THE PEN the first", x.eweOf(0, 2), 43);
    }

    private static void byNumbers() {
        TwoWhistlesAndFiveEwes x = new TwoWhistlesAndFiveEwes();
        // EWE 0 goes while the LEADER is at 32 yet, EWE 2 when it is at 22
        x.ewe(EWE, 0, 31);
        x.ewe(LEADER, 9, 32);
        x.ewe(EWE, 0, 31);
        x.dog(50);
        x.turn(0);
        DUE.is("the LEADER", x.eweOf(1, 2), 22);
        DUE.is("ahead of it", x.eweOf(0, 2), 32);
        DUE.is("behind it", x.eweOf(2, 2), 21);
    }

    private static void in() {
        TwoWhistlesAndFiveEwes x = new TwoWhistlesAndFiveEwes();
        x.pen(13);
        x.ewe(WILD, 0, 33);
        x.dog(31);
        DUE.is("44: IN at once", x.turn(0), 1);
        DUE.is("44: it runs no farther", x.eweOf(0, 2), 13);
        x.dog(12);
        DUE.is("44: it stays", x.turn(0), 1);
        DUE.is("44: in THE PEN", x.eweOf(0, 2), 13);
    }

    private static void walls() {
        TwoWhistlesAndFiveEwes x = new TwoWhistlesAndFiveEwes();
        x.wall(23, true);
        x.wall(43, true);
        x.ewe(EWE, 0, 33);
        x.dog(30);
        x.turn(0);
        DUE.is("not through WALLS", x.eweOf(0, 2), 34);
        x.move(0, 33);
        x.wall(34, true);
        x.turn(0);
        DUE.is("none: it stays", x.eweOf(0, 2), 33);
        DUE.is("34: held", x.held(), 1);
    }

    private static void dog() {
        TwoWhistlesAndFiveEwes x = new TwoWhistlesAndFiveEwes();
        x.dog(33);
        int[] at = {33, 23, 33, 32, 33};
        for (int command = 0; command < 5; command++) {
            DUE.is("44: turn(" + command + ")", x.turn(command), 0);
            DUE.is("44: THE DOG behind " + command, x.status(3), at[command]);
            DUE.is("44: what it did", x.status(8), command);
            DUE.is("44: TURNS", x.status(5), command + 1);
        }
        x.wall(23, true);
        DUE.is("44: a WALL is there", x.turn(1), -5);
        x.dog(10);
        DUE.is("44: THE PEN is there", x.turn(1), -5);
        DUE.is("44: off the hill", x.turn(3), -5);
        x.dog(55);
        DUE.is("44: off the hill", x.turn(2), -5);
        DUE.is("44: off the hill", x.turn(4), -5);
        DUE.is("44: no COMMAND", x.turn(-1), -2);
        DUE.is("44: no COMMAND", x.turn(5), -2);
        DUE.is("44: no COMMAND", x.turn(Integer.MIN_VALUE), -2);
        DUE.is("44: no more TURNS", x.status(5), 5);
        DUE.is("44: what it did latest", x.status(8), 4);
        DUE.is("44: it can stay", x.turn(0), 0);
        x.ewe(EWE, 0, 54);
        DUE.is("44: onto a EWE's CELL", x.turn(3), 0);
        DUE.is("44: there", x.status(3), 54);
    }

    public static void main(String[] args) {
        kinds();
        toTheLeader();
        leaderItself();
        byNumbers();
        in();
        walls();
        dog();
        DUE.end();
    }
}
