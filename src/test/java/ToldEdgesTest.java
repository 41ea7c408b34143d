/** The edges of promises 25, 27 and 40 to 43: told COMMANDS and told CELLS. */
public final class ToldEdgesTest {
    private static final Due DUE = new Due("ToldEdgesTest");
    private static final long BEYOND_INT = 1L << 32;

    /** 25: "each done l TURNS late (0 to 3; ..; n and l TURNS in all; what THE DOG can't do it doesn't)", n 0 to 40. */
    private static void lateTurnsInAll() {
        for (int n = 0; n <= 5; n++) {
            for (int l = 0; l <= 3; l++) {
                TwoWhistlesAndFiveEwes x = Starts.threeTurns();
                x.row(0, 0, 40);
                // THE DOG can't go a COLUMN more
                Due.fill(x, 1, 3, 4, 4, 4, 4, 4);
                int due = n + l >= 3 ? 1 : 0;
                DUE.is("25: stay, " + n + " and " + l + " TURNS", x.late(0, n, l), due);
                DUE.is("25: what it can't do, " + n + " and " + l + " TURNS", x.late(1, n, l), due);
            }
        }
        TwoWhistlesAndFiveEwes x = Starts.threeTurns();
        x.row(0, 0, 40);
        DUE.is("25: 40 and 3", x.late(0, 40, 3), 1);
        DUE.is("25: 40 and 4", x.late(0, 40, 4), -2);
        DUE.is("25: 41 and 3", x.late(0, 41, 3), -2);
        DUE.is("25: -1 and 3", x.late(0, -1, 3), -2);
        DUE.is("25: 0 and -1", x.late(0, 0, -1), -2);
        x.row(1, 0, 39);
        DUE.is("25: 39 of 39", x.late(1, 39, 0), 1);
        DUE.is("25: 40 of 39", x.late(1, 40, 0), -2);
        x.row(2, 0, 0);
        DUE.is("25: none of none", x.late(2, 0, 0), 0);
        DUE.is("25: none of none, 3 TURNS late", x.late(2, 0, 3), 1);
    }

    /** 25: "0 is done till then": not what it did latest, and ahead of the COMMANDS. */
    private static void lateTillThen() {
        TwoWhistlesAndFiveEwes x = Starts.oneEwe(15);
        x.turn(3);
        DUE.is("25: what it did latest", x.status(8), 3);
        Due.fill(x, 0, 0, 3);
        for (int l = 0; l <= 3; l++) {
            DUE.is("25: stays till then, " + l + " TURNS", x.late(0, 0, l), 0);
            DUE.is("25: goes then, " + l + " TURNS late", x.late(0, 1, l), 1);
        }
        x = Starts.oneEwe(13);
        Due.fill(x, 0, 0, 2);
        DUE.is("25: goes away at once", x.late(0, 1, 0), 0);
        DUE.is("25: goes away a TURN late", x.late(0, 1, 1), 1);
    }

    /** 25, 27: "STUCK: an element that is no COMMAND", of the first n alone. */
    private static void noCommands() {
        for (long no : new long[] {-1, 5, 6, 127, -128, Long.MIN_VALUE, Long.MAX_VALUE, BEYOND_INT, BEYOND_INT + 3, -BEYOND_INT}) {
            TwoWhistlesAndFiveEwes x = Starts.oneEwe(14);
            Due.fill(x, 0, 3, 0, 4, no);
            DUE.is("25: ahead of " + no, x.late(0, 2, 0), 0);
            DUE.is("25: " + no, x.late(0, 3, 0), -5);
            DUE.is("27: ahead of " + no, x.odds(0, 2), 0);
            DUE.is("27: " + no, x.odds(0, 3), -5);
            DUE.is("41: ahead of " + no, x.judge(0, 2), -1);
            DUE.is("41: " + no, x.judge(0, 3), 2);
            DUE.is("42: ahead of " + no, x.behind(0, 2, 0), 0);
            DUE.is("42: " + no, x.behind(0, 3, 0), -5);
            DUE.is("43: " + no, x.done(0, 3), -5);
            DUE.is("43: nothing done", x.status(5) * 100 + x.status(3), 14);
            DUE.is("43: ahead of " + no, x.done(0, 2), 0);
        }
    }

    /** 27: "each isn't heard in WIND of 12 ways"; "of 1,000,000 (cut)". */
    private static void oddsByWind() {
        int[] once = {1000000, 916666, 833333, 750000, 666666, 583333, 500000, 416666, 333333, 250000, 166666, 83333, 0};
        // twice heard: 144 ways, 121, 100, ..
        int[] twice = {1000000, 840277, 694444, 562500, 444444, 340277, 250000, 173611, 111111, 62500, 27777, 6944, 0};
        for (int wind = 0; wind <= 12; wind++) {
            TwoWhistlesAndFiveEwes x = Starts.oneEwe(14);
            x.wind(wind);
            Due.fill(x, 0, 0, 3);
            DUE.is("27: one to be heard, WIND " + wind, x.odds(0, 1), once[wind]);
            // a ROW less heard once goes on until a COLUMN less is heard
            x.dog(46);
            Due.fill(x, 1, 4, 0, 0, 0, 0, 0, 0);
            Due.fill(x, 2, 2, 1, 1, 1, 3, 3, 3);
            DUE.is("27: two to be heard of six, WIND " + wind, x.odds(2, 6), twice[wind]);
            DUE.is("27: five of them, WIND " + wind, x.odds(2, 5), 0);
            DUE.is("27: six stays, WIND " + wind, x.odds(1, 6), 0);
        }
    }

    /** 27: "all are IN behind them": none, all, no EWES; n 0 to 6. */
    private static void oddsOfNone() {
        TwoWhistlesAndFiveEwes x = Starts.threeTurns();
        x.row(0, 0, 7);
        int[] due = {0, 0, 0, 1000000, 1000000, 1000000, 1000000, -2};
        for (int wind = 0; wind <= 12; wind++) {
            x.wind(wind);
            for (int n = 0; n < due.length; n++) {
                DUE.is("27: " + n + " stays, WIND " + wind, x.odds(0, n), due[n]);
            }
        }
        DUE.is("27: -1", x.odds(0, -1), -2);
        x.ewe(2, 0, 66);
        DUE.is("27: not all", x.odds(0, 6), 0);
        x.move(0, 0);
        DUE.is("27: not all, one IN at first", x.odds(0, 0), 0);
        x.move(1, 0);
        DUE.is("27: all IN at first", x.odds(0, 0), 1000000);
        x = new TwoWhistlesAndFiveEwes();
        x.row(0, 0, 6);
        DUE.is("27: no EWES", x.odds(0, 0), 1000000);
        DUE.is("27: no EWES, six stays", x.odds(0, 6), 1000000);
    }

    /** 27: "THE DOG does then what it did in the TURN ahead (..; what it can't do it doesn't, and it counts as done all the same)". */
    private static void oddsOfWhatItDid() {
        TwoWhistlesAndFiveEwes x = Starts.large(3, 30);
        x.ewe(0, 0, 13);
        // a COLUMN less can't be done; 10 is come to if the first is heard and the second isn't
        Due.fill(x, 0, 0, 1, 3, 0);
        DUE.is("27: 10 times 2 of 144", x.odds(0, 3), 138888);
        x.wind(6);
        DUE.is("27: 6 times 6 of 144", x.odds(0, 3), 250000);
        x = Starts.oneEwe(16);
        x.turn(3);
        x.row(0, 0, 2);
        x.wind(12);
        DUE.is("27: what it did in truth", x.odds(0, 1), 0);
        DUE.is("27: what it did in truth, twice", x.odds(0, 2), 1000000);
        x.wind(3);
        DUE.is("27: not heard twice, 3 times 3 of 144", x.odds(0, 2), 62500);
        x.turn(0);
        DUE.is("27: it stayed in truth", x.odds(0, 2), 0);
    }

    /** 41: "WRONG: the first that is none or that THE DOG can't do; NONE", n 0 to 40. */
    private static void wrong() {
        TwoWhistlesAndFiveEwes x = Starts.large(0, 33);
        x.row(0, 1, 40);
        DUE.is("41: none", x.judge(0, 0), -1);
        DUE.is("41: forty", x.judge(0, 40), -1);
        DUE.is("41: 41", x.judge(0, 41), -2);
        DUE.is("41: -1", x.judge(0, -1), -2);
        x.set(0, 39, 5);
        DUE.is("41: all but the last", x.judge(0, 39), -1);
        DUE.is("41: the last", x.judge(0, 40), 39);
        x.set(0, 0, -1);
        DUE.is("41: the first", x.judge(0, 40), 0);
        DUE.is("41: none of them", x.judge(0, 0), -1);
        int[] toBorder = {1, 2, 3, 4};
        for (int command : toBorder) {
            Due.fill(x, 1, 0, command, command, command, command, command);
            DUE.is("41: to the border by " + command, x.judge(1, 3), -1);
            DUE.is("41: over the border by " + command, x.judge(1, 4), 3);
            DUE.is("41: of two the first", x.judge(1, 5), 3);
        }
        Due.fill(x, 1, 0, 3, 3, 3, 1, 1, 1);
        DUE.is("41: up to THE PEN", x.judge(1, 5), -1);
        DUE.is("41: into THE PEN", x.judge(1, 6), 5);
        x.wall(31, true);
        DUE.is("41: into a WALL", x.judge(1, 6), 1);
        x.ewe(0, 0, 32);
        DUE.is("41: through a EWE", x.judge(1, 1), -1);
    }

    /** 42: "how many are IN (what 0), THE DOG's CELL (1), APART (2), the CELL of EWE 0 to 4 (10 to 14)". */
    private static void behind() {
        TwoWhistlesAndFiveEwes x = Starts.threeTurns();
        x.row(0, 0, 40);
        Due.fill(x, 1, 0, 2, 3, 1);
        for (int e = 1; e < 5; e++) {
            for (int what = 10; what < 16; what++) {
                DUE.is("42: EWE " + (what - 10) + " of " + e, x.behind(0, 0, what), what == 10 ? 3 : what < 10 + e ? 66 : -2);
            }
            x.ewe(2, 0, 66);
        }
        DUE.is("42: EWE 4", x.behind(0, 0, 14), 66);
        DUE.is("42: no EWE 5", x.behind(0, 0, 15), -2);
        for (int n = 0; n <= 4; n++) {
            DUE.is("42: IN behind " + n, x.behind(0, n, 0), n >= 3 ? 1 : 0);
            DUE.is("42: EWE 0 behind " + n, x.behind(0, n, 10), Math.max(0, 3 - n));
            // from CELL 3 on a COLUMN farther each TURN, until it is IN: then all others are in one CELL
            DUE.is("42: APART behind " + n, x.behind(0, n, 2), n >= 3 ? 0 : 9 + n);
        }
        for (int e = 1; e < 5; e++) {
            x.move(e, 10);
        }
        for (int n = 0; n <= 3; n++) {
            DUE.is("42: APART less and less, behind " + n, x.behind(0, n, 2), n >= 3 ? 0 : 4 - n);
        }
        DUE.is("42: forty", x.behind(0, 40, 1), 16);
        DUE.is("42: THE DOG behind none", x.behind(1, 0, 1), 16);
        DUE.is("42: THE DOG behind one", x.behind(1, 1, 1), 26);
        DUE.is("42: THE DOG behind two", x.behind(1, 2, 1), 25);
        DUE.is("42: THE DOG behind three", x.behind(1, 3, 1), 15);
        DUE.is("42: fewer elements", x.behind(1, 4, 1), -2);
    }

    /** 42: TURNS behind one another: THE LEADER is where it has come to then. */
    private static void behindTheLeader() {
        TwoWhistlesAndFiveEwes x = Starts.large(20, 33);
        x.ewe(0, 0, 23);
        x.ewe(5, 9, 21);
        x.ewe(0, 0, 23);
        x.row(0, 0, 40);
        DUE.is("42: the LEADER comes IN", x.behind(0, 1, 11), 20);
        DUE.is("42: the one ahead of it kept to it", x.behind(0, 1, 10), 22);
        DUE.is("42: the one behind it has none to keep to", x.behind(0, 1, 12), 13);
        x = Starts.large(5, 42);
        x.ewe(5, 9, 45);
        x.ewe(0, 0, 44);
        x.row(0, 0, 1);
        DUE.is("42: the LEADER goes a ROW less", x.behind(0, 1, 10), 35);
        DUE.is("42: 34 and 45 are as near to 35, where it is then", x.behind(0, 1, 11), 34);
        Due.fill(x, 1, 0, 42);
        Due.fill(x, 2, 0, 45);
        DUE.is("40: 45 is nearest to where it is now", x.kinds(1, 2, 1, 1), 1 + 4);
    }

    /** 43: "They are done in truth: how many are IN", n 0 to 40. */
    private static void done() {
        TwoWhistlesAndFiveEwes x = Starts.threeTurns();
        x.turn(2);
        x.turn(1);
        x.move(0, 3);
        x.row(0, 0, 40);
        DUE.is("43: none", x.done(0, 0), 0);
        DUE.is("43: no TURN", x.status(5), 2);
        DUE.is("43: what it did latest stays", x.status(8), 1);
        DUE.is("43: two", x.done(0, 2), 0);
        DUE.is("43: TURNS", x.status(5), 4);
        DUE.is("43: what it did latest", x.status(8), 0);
        DUE.is("43: the third", x.done(0, 1), 1);
        DUE.is("43: forty", x.done(0, 40), 1);
        DUE.is("43: TURNS", x.status(5), 45);
        DUE.is("43: 41", x.done(0, 41), -2);
        Due.fill(x, 1, 0, 0, 0, 4);
        DUE.is("43: the last is WRONG", x.done(1, 3), -5);
        DUE.is("43: none of them done", x.status(5), 45);
        DUE.is("43: those ahead of it", x.done(1, 2), 1);
        DUE.is("43: TURNS", x.status(5), 47);
    }

    /** 40: how far THE DOG is tells the KINDS; a LEADER's a is 5. */
    private static void kindsByDistance() {
        // THE DOG's CELL, the EWE's, the KINDS by which it goes there from 33
        int[][] due = {{33, 23, 1}, {33, 13, 2}, {33, 33, 20}, {33, 3, 8}, {33, 43, 32}, {33, 32, 0},
            {43, 23, 1}, {43, 13, 2}, {43, 33, 20}, {43, 3, 8}, {43, 32, 32}, {43, 34, 0},
            {53, 23, 5}, {53, 13, 2}, {53, 33, 16}, {53, 3, 8}, {53, 32, 32},
            {63, 23, 23}, {63, 13, 0}, {63, 33, 0}, {63, 3, 8}, {63, 32, 32},
            {64, 23, 0}, {64, 13, 8}, {64, 33, 23}, {64, 32, 32},
            {65, 23, 8}, {65, 13, 0}, {65, 33, 23}, {65, 32, 32},
            {66, 23, 0}, {66, 33, 63}, {66, 32, 0}};
        for (int own = 0; own <= 5; own++) {
            TwoWhistlesAndFiveEwes x = Starts.large(60, 0);
            x.ewe(own, 5, 33);
            for (int[] d : due) {
                Due.fill(x, 0, 0, d[0]);
                Due.fill(x, 1, 3, d[1]);
                DUE.is("40: THE DOG at " + d[0] + ", to " + d[1], x.kinds(0, 1, 1, 0), d[2]);
            }
        }
    }

    /** 40: "TURN by TURN", 0 to 40, "from where it is now, others where they are now", "a as it is". */
    private static void kindsByTurns() {
        TwoWhistlesAndFiveEwes x = Starts.large(60, 0);
        x.ewe(0, 5, 33);
        x.row(0, 0, 40);
        x.row(1, 3, 40);
        for (int i = 0; i < 40; i++) {
            x.set(0, i, 66);
            x.set(1, i, 33);
        }
        DUE.is("40: no TURNS", x.kinds(0, 1, 0, 0), 63);
        DUE.is("40: forty", x.kinds(0, 1, 40, 0), 63);
        DUE.is("40: 41", x.kinds(0, 1, 41, 0), -2);
        DUE.is("40: -1", x.kinds(0, 1, -1, 0), -2);
        x.set(1, 39, 23);
        DUE.is("40: all but the last", x.kinds(0, 1, 39, 0), 63);
        DUE.is("40: the last is another", x.kinds(0, 1, 40, 0), 0);
        Due.fill(x, 0, 0, 63, 63, 65);
        Due.fill(x, 1, 3, 23, 23, 23);
        DUE.is("40: goes, and stays then", x.kinds(0, 1, 2, 0), 23);
        DUE.is("40: and stays", x.kinds(0, 1, 3, 0), 23);
        Due.fill(x, 1, 3, 23, 13, 13);
        DUE.is("40: none goes so", x.kinds(0, 1, 2, 0), 0);
        x.move(0, 43);
        Due.fill(x, 1, 3, 23);
        DUE.is("40: from where it is now", x.kinds(0, 1, 1, 0), 2);
        x.ewe(5, 9, 30);
        x.move(0, 33);
        Due.fill(x, 0, 0, 63, 53);
        Due.fill(x, 1, 3, 32, 31);
        DUE.is("40: to the LEADER", x.kinds(0, 1, 1, 0), 1 + 2 + 4 + 16 + 32);
        DUE.is("40: to the LEADER where it is now", x.kinds(0, 1, 2, 0), 1 + 2 + 4 + 16 + 32);
        DUE.is("40: nothing went", x.eweOf(0, 2) * 100 + x.eweOf(1, 2), 3330);
    }

    /** 40 with 2: taken for another KIND, a LEADER keeps to "the first other EWE of KIND LEADER", never to itself. */
    private static void kindsOfALeader() {
        TwoWhistlesAndFiveEwes x = Starts.large(60, 0);
        x.ewe(5, 9, 33);
        Due.fill(x, 0, 0, 63);
        Due.fill(x, 1, 3, 34);
        Due.fill(x, 2, 3, 23);
        DUE.is("40: no other LEADER, to the first", x.kinds(0, 2, 1, 0), 1 + 2 + 4 + 16);
        x.ewe(5, 0, 36);
        DUE.is("40: to the other LEADER", x.kinds(0, 1, 1, 0), 1 + 2 + 4 + 16);
        DUE.is("40: not to the first", x.kinds(0, 2, 1, 0), 0);
        x.move(1, 60);
        DUE.is("40: the other LEADER is IN", x.kinds(0, 2, 1, 0), 1 + 2 + 4 + 16);
    }

    /** 40: a EWE that comes IN stays; "STUCK: it is IN". */
    private static void kindsOfOneComingIn() {
        TwoWhistlesAndFiveEwes x = Starts.large(23, 0);
        x.ewe(4, 5, 33);
        Due.fill(x, 0, 0, 63, 22, 13);
        Due.fill(x, 1, 3, 23, 23, 23);
        DUE.is("40: all come IN", x.kinds(0, 1, 1, 0), 63);
        DUE.is("40: and stay", x.kinds(0, 1, 3, 0), 63);
        x.move(0, 23);
        for (int n = 0; n <= 3; n++) {
            DUE.is("40: it is IN, n " + n, x.kinds(0, 1, n, 0), -5);
        }
        DUE.is("40: fewer elements ahead of that", x.kinds(0, 1, 4, 0), -2);
    }

    /** 40: "STUCK: .. an element that is no CELL of the hill", of the first n alone; WALLS and THE PEN are CELLS. */
    private static void kindsByCells() {
        long[] no = {-1, 7, 9, 17, 67, 70, 77, 100, 127, -128, Long.MIN_VALUE, Long.MAX_VALUE, BEYOND_INT, BEYOND_INT + 33};
        TwoWhistlesAndFiveEwes x = Starts.large(60, 0);
        x.ewe(0, 5, 33);
        x.wall(6, true);
        for (long n : no) {
            Due.fill(x, 0, 3, 66, n);
            Due.fill(x, 1, 3, 33, 33);
            DUE.is("40: ahead of THE DOG at " + n, x.kinds(0, 1, 1, 0), 63);
            DUE.is("40: THE DOG at " + n, x.kinds(0, 1, 2, 0), -5);
            DUE.is("40: the EWE at " + n, x.kinds(1, 0, 2, 0), -5);
        }
        Due.fill(x, 0, 0, 60, 6, 0, 66);
        Due.fill(x, 1, 3, 33, 33, 33, 33);
        DUE.is("40: THE DOG at THE PEN, a WALL, corners", x.kinds(0, 1, 4, 0), 63);
        Due.fill(x, 1, 3, 33, 33, 33, 6);
        DUE.is("40: the EWE at a WALL: by no KIND", x.kinds(0, 1, 4, 0), 0);
        TwoWhistlesAndFiveEwes six = new TwoWhistlesAndFiveEwes();
        six.ewe(0, 0, 33);
        Due.fill(six, 0, 0, 66);
        Due.fill(six, 1, 0, 33);
        DUE.is("40: 66 on SIDE 6", six.kinds(0, 1, 1, 0), -5);
        six.side(7);
        DUE.is("40: 66 on SIDE 7", six.kinds(0, 1, 1, 0), 63);
    }

    public static void main(String[] args) {
        lateTurnsInAll();
        lateTillThen();
        noCommands();
        oddsByWind();
        oddsOfNone();
        oddsOfWhatItDid();
        wrong();
        behind();
        behindTheLeader();
        done();
        kindsByDistance();
        kindsByTurns();
        kindsOfALeader();
        kindsOfOneComingIn();
        kindsByCells();
        DUE.end();
    }
}
