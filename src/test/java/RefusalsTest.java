/** REFUSALS: "the call answers the number; nothing changes but how many there were; the first that fits as each line has them". */
public final class RefusalsTest {
    private static final Due DUE = new Due("RefusalsTest");
    private static final int BAD = -2;
    private static final int OTHER = -3;
    private static final int NOTHING = -4;
    private static final int STUCK = -5;
    private static final int FULL = -6;
    private static final int MIN = Integer.MIN_VALUE;
    private static final int MAX = Integer.MAX_VALUE;

    private static void refused(String name, Twins.Start start, int number, Twins.Call call) {
        Twins.refused(DUE, name, start, call, number);
    }

    private static void refused(String name, int number, Twins.Call call) {
        refused(name, Starts::rich, number, call);
    }

    private static void answers(String name, long answer, Twins.Call call) {
        Twins.unchanged(DUE, name, Starts::rich, call, answer);
    }

    private static void rows() {
        int[][] bad = {{-1, 0, 0}, {8, 0, 0}, {4, -1, 0}, {4, 5, 0}, {4, 0, -1}, {4, 0, 41}, {MIN, 0, 0}, {MAX, 0, 0}, {0, MIN, 1},
            {0, MAX, 1}, {0, 0, MIN}, {0, 0, MAX}};
        for (int[] b : bad) {
            refused("2: row(" + b[0] + ", " + b[1] + ", " + b[2] + ")", BAD, x -> x.row(b[0], b[1], b[2]));
        }
        int[][] sets = {{-1, 0, BAD}, {8, 0, BAD}, {MIN, 0, BAD}, {MAX, 0, BAD}, {0, -1, BAD}, {0, 7, BAD}, {0, MIN, BAD},
            {0, MAX, BAD}, {3, 0, BAD}, {5, 40, BAD}, {2, 0, OTHER}, {2, -1, OTHER}, {4, 0, NOTHING}, {4, -1, NOTHING}};
        for (int[] s : sets) {
            refused("3: set(" + s[0] + ", " + s[1] + ", 1)", s[2], x -> x.set(s[0], s[1], 1));
        }
    }

    private static void copies() {
        int[][] copies = {{-1, 2, 0, 0, 0, BAD}, {8, 2, 0, 0, 0, BAD}, {2, -1, 0, 0, 0, BAD}, {2, 8, 0, 0, 0, BAD},
            {MAX, 4, 0, 0, 0, BAD}, {4, MIN, 0, 0, 0, BAD}, {2, 0, -1, 0, 0, OTHER}, {0, 2, 0, -1, 0, OTHER}, {2, 4, 0, 0, -1, OTHER},
            {4, 2, 0, 0, 1, OTHER}, {2, 2, 0, 0, 0, OTHER}, {0, 1, 0, 0, -1, OTHER}, {0, 3, 0, 0, 0, OTHER}, {5, 0, 9, 9, 9, OTHER},
            {4, 0, -1, 0, 0, NOTHING}, {0, 4, 0, -1, 0, NOTHING}, {4, 7, 0, 0, -1, NOTHING}, {4, 4, 0, 0, 0, NOTHING},
            {0, 6, -1, 0, 1, BAD}, {0, 6, 0, -1, 1, BAD}, {0, 6, 0, 0, -1, BAD}, {0, 6, 7, 0, 1, BAD}, {0, 6, 5, 0, 3, BAD},
            {0, 6, 0, 3, 1, BAD}, {0, 6, 0, 1, 3, BAD}, {0, 6, 8, 0, 0, BAD}, {0, 6, 0, 4, 0, BAD}, {6, 0, 1, 0, 3, BAD},
            {0, 6, MAX, 0, 1, BAD}, {0, 6, 0, MAX, 1, BAD}, {0, 6, 1, 1, MAX, BAD}, {0, 6, 0, 0, MIN, BAD}, {0, 6, MIN, 0, 1, BAD}};
        for (int[] c : copies) {
            refused("4: copy(" + c[0] + ", " + c[1] + ", " + c[2] + ", " + c[3] + ", " + c[4] + ")", c[5],
                x -> x.copy(c[0], c[1], c[2], c[3], c[4]));
        }
    }

    private static void shelves() {
        int[][] shows = {{-1, 0}, {8, 0}, {-1, -1}, {8, -1}, {4, -2}, {4, 3}, {0, 3}, {4, MIN}, {4, MAX}, {MIN, 0}, {MAX, 0}};
        for (int[] s : shows) {
            refused("7: show(" + s[0] + ", " + s[1] + ")", BAD, x -> x.show(s[0], s[1]));
        }
        int[][] says = {{-1, 0, BAD}, {8, 0, BAD}, {MIN, 0, BAD}, {MAX, 0, BAD}, {4, -1, BAD}, {4, 6, BAD}, {0, -1, BAD}, {0, 6, BAD},
            {2, -1, BAD}, {2, 6, BAD}, {2, MIN, BAD}, {2, MAX, BAD}, {0, 0, OTHER}, {3, 5, OTHER}, {2, 1, OTHER}, {2, 2, OTHER},
            {2, 3, OTHER}, {2, 4, OTHER}, {4, 0, NOTHING}, {7, 5, NOTHING}};
        for (int[] s : says) {
            refused("8: says(" + s[0] + ", " + s[1] + ")", s[2], x -> x.says(s[0], s[1]));
        }
    }

    private static void hillOf() {
        for (int n : new int[] {2, 3, 5, 6, 8, 0, -1, MIN, MAX}) {
            refused("9: side(" + n + ")", BAD, x -> x.side(n));
        }
        for (int cell : new int[] {-1, -10, -11, 7, 9, 67, 70, 76, 77, 99, 100, 107, 166, MIN, MAX}) {
            refused("10: wall(" + cell + ", true)", BAD, x -> x.wall(cell, true));
            refused("10: wall(" + cell + ", false)", BAD, x -> x.wall(cell, false));
            refused("11: pen(" + cell + ")", BAD, x -> x.pen(cell));
            refused("12: dog(" + cell + ")", BAD, x -> x.dog(cell));
            refused("13: ewe(0, 0, " + cell + ")", BAD, x -> x.ewe(0, 0, cell));
            refused("14: move(0, " + cell + ")", BAD, x -> x.move(0, cell));
            refused("20: hasWall(" + cell + ")", BAD, x -> x.hasWall(cell));
            refused("29: path(" + cell + ")", BAD, x -> x.path(cell));
            refused("32: open(" + cell + ")", BAD, x -> x.open(cell));
        }
        // THE PEN, THE DOG, the EWES
        for (int cell : new int[] {11, 50, 33, 24, 66}) {
            refused("10: a WALL at " + cell, STUCK, x -> x.wall(cell, true));
        }
        // a WALL, THE DOG, the EWES
        for (int cell : new int[] {22, 50, 33, 24, 66}) {
            refused("11: pen(" + cell + ")", STUCK, x -> x.pen(cell));
        }
        refused("11: where it is, a EWE being IN", Starts::penned, STUCK, x -> x.pen(34));
        refused("11: elsewhere, a EWE being IN", Starts::penned, STUCK, x -> x.pen(0));
        refused("12: at a WALL", STUCK, x -> x.dog(22));
        refused("12: at THE PEN", STUCK, x -> x.dog(11));
    }

    private static void ewesOf() {
        int[][] ewes = {{-1, 0, 0, BAD}, {6, 0, 0, BAD}, {MIN, 0, 0, BAD}, {MAX, 0, 0, BAD}, {0, -1, 0, BAD}, {0, 10, 0, BAD},
            {0, MIN, 0, BAD}, {0, MAX, 0, BAD}, {6, 0, 22, BAD}, {0, 10, 22, BAD}, {0, 0, 22, STUCK}, {5, 9, 45, STUCK}};
        for (int[] e : ewes) {
            refused("13: ewe(" + e[0] + ", " + e[1] + ", " + e[2] + ")", e[3], x -> x.ewe(e[0], e[1], e[2]));
        }
        Twins.Start full = Starts::full;
        refused("13: a sixth", full, FULL, x -> x.ewe(0, 0, 0));
        refused("13: STUCK ahead of FULL", full, STUCK, x -> x.ewe(0, 0, 22));
        refused("13: BAD KIND ahead of FULL", full, BAD, x -> x.ewe(6, 0, 22));
        refused("13: BAD a ahead of FULL", full, BAD, x -> x.ewe(0, 10, 22));
        refused("13: BAD CELL ahead of FULL", full, BAD, x -> x.ewe(0, 0, 6));
        int[][] moves = {{-1, 0, BAD}, {3, 0, BAD}, {3, 22, BAD}, {-1, 22, BAD}, {MIN, 0, BAD}, {MAX, 0, BAD}, {0, 22, STUCK},
            {2, 45, STUCK}};
        for (int[] m : moves) {
            refused("14: move(" + m[0] + ", " + m[1] + ")", m[2], x -> x.move(m[0], m[1]));
        }
        for (int v : new int[] {-1, 13, MIN, MAX}) {
            refused("15: wind(" + v + ")", BAD, x -> x.wind(v));
        }
        for (int letter : new int[] {-1, 256, MIN, MAX}) {
            refused("16: feed(" + letter + ")", BAD, x -> x.feed(letter));
            refused("16: BAD ahead of FULL, feed(" + letter + ")", full, BAD, x -> x.feed(letter));
        }
        refused("16: byte 251", full, FULL, x -> x.feed(32));
        int[][] of = {{-1, 0}, {3, 0}, {MIN, 0}, {MAX, 0}, {0, -1}, {0, 6}, {0, MIN}, {0, MAX}};
        for (int[] o : of) {
            refused("19: eweOf(" + o[0] + ", " + o[1] + ")", BAD, x -> x.eweOf(o[0], o[1]));
        }
    }

    /** A HILL with a FAULT is refused as the one call that changes something: THE TAPE is empty then. */
    private static void texts() {
        for (String rest : new String[] {"9", "#", ";", ";wall 50", " 9", ";ewe 0 0 70", ";gap 22;pen 22;dog 22"}) {
            TwoWhistlesAndFiveEwes had = Starts.rich();
            Due.feedAll(had, rest);
            DUE.is("18: a FAULT in 'wind 9" + rest + "'", had.hill() < -20 ? 1 : 0, 1);
            TwoWhistlesAndFiveEwes twin = Starts.rich();
            twin.wipe();
            Twins.areAlike(DUE, "18: behind 'wind 9" + rest + "'", had, twin, BAD);
        }
    }

    private static void searches() {
        int[][] fewest = {{-1, -1, BAD}, {7, -1, BAD}, {MIN, 0, BAD}, {MAX, 0, BAD}, {6, -2, BAD}, {0, MIN, BAD}, {7, 9, BAD},
            {6, 0, STUCK}, {0, 0, STUCK}, {6, 6, STUCK}, {3, MAX, STUCK}};
        for (int[] f : fewest) {
            refused("21: fewest(" + f[0] + ", " + f[1] + ")", f[2], x -> x.fewest(f[0], f[1]));
        }
        int[][] most = {{-1, -1}, {6, -1}, {MIN, -1}, {MAX, -1}, {5, -2}, {5, 5}, {0, 0}, {1, 1}, {5, MIN}, {5, MAX}, {-1, -2}};
        for (int[] m : most) {
            refused("22: most(" + m[0] + ", " + m[1] + ")", BAD, x -> x.most(m[0], m[1]));
        }
        for (int v : new int[] {-1, 3, 5, MIN, MAX}) {
            refused("24: shy(" + v + ")", BAD, x -> x.shy(v));
            refused("37: near(" + v + ", 1)", BAD, x -> x.near(v, 1));
        }
        for (int v : new int[] {-1, 13, MIN, MAX}) {
            refused("37: near(0, " + v + ")", BAD, x -> x.near(0, v));
        }
        for (int v : new int[] {-1, 4, MIN, MAX}) {
            refused("28: ewes(" + v + ")", BAD, x -> x.ewes(v));
        }
        for (int v : new int[] {-1, 100, MIN, MAX}) {
            refused("30: reach(" + v + ")", BAD, x -> x.reach(v));
        }
        for (int v : new int[] {-1, 7, MIN, MAX}) {
            refused("31: ways(" + v + ")", BAD, x -> x.ways(v));
        }
        for (int v : new int[] {-1, 2, MIN, MAX}) {
            refused("33: still(" + v + ")", BAD, x -> x.still(v));
        }
    }

    private static void toldOnes() {
        int[][] late = {{-1, 0, 0, BAD}, {8, 0, 0, BAD}, {4, -1, 0, BAD}, {4, 41, 0, BAD}, {4, 0, -1, BAD}, {4, 0, 4, BAD},
            {2, 41, 0, BAD}, {2, 0, 4, BAD}, {0, MIN, 0, BAD}, {0, MAX, 0, BAD}, {0, 0, MIN, BAD}, {0, 0, MAX, BAD}, {2, 40, 3, OTHER},
            {4, 40, 3, NOTHING}, {0, 8, 0, BAD}, {3, 1, 3, BAD}, {0, 7, 0, STUCK}, {1, 3, 0, STUCK}, {1, 4, 3, STUCK}};
        for (int[] t : late) {
            refused("25: late(" + t[0] + ", " + t[1] + ", " + t[2] + ")", t[3], x -> x.late(t[0], t[1], t[2]));
        }
        int[][] odds = {{-1, 0, BAD}, {8, 0, BAD}, {4, -1, BAD}, {4, 7, BAD}, {2, 7, BAD}, {0, 7, BAD}, {5, 7, BAD}, {MIN, 0, BAD},
            {0, MAX, BAD}, {2, 6, OTHER}, {4, 6, NOTHING}, {6, 4, BAD}, {3, 1, BAD}, {1, 3, STUCK}, {6, 1, STUCK}};
        for (int[] o : odds) {
            refused("27: odds(" + o[0] + ", " + o[1] + ")", o[2], x -> x.odds(o[0], o[1]));
        }
        int[][] told = {{-1, 0, BAD}, {8, 0, BAD}, {4, -1, BAD}, {4, 41, BAD}, {2, 41, BAD}, {MAX, 0, BAD}, {0, MIN, BAD}, {0, MAX, BAD},
            {2, 40, OTHER}, {4, 40, NOTHING}, {0, 8, BAD}, {1, 5, BAD}, {3, 1, BAD}};
        for (int[] t : told) {
            refused("41: judge(" + t[0] + ", " + t[1] + ")", t[2], x -> x.judge(t[0], t[1]));
            refused("42: behind(" + t[0] + ", " + t[1] + ", 0)", t[2], x -> x.behind(t[0], t[1], 0));
            refused("43: done(" + t[0] + ", " + t[1] + ")", t[2], x -> x.done(t[0], t[1]));
        }
        // off the hill, no COMMAND
        int[][] wrong = {{1, 1}, {1, 4}, {0, 7}, {6, 1}};
        for (int[] w : wrong) {
            refused("42: behind(" + w[0] + ", " + w[1] + ", 1)", STUCK, x -> x.behind(w[0], w[1], 1));
            refused("43: done(" + w[0] + ", " + w[1] + ")", STUCK, x -> x.done(w[0], w[1]));
        }
        for (int what : new int[] {-1, 3, 9, 13, 14, 15, MIN, MAX}) {
            refused("42: behind(0, 1, " + what + ")", BAD, x -> x.behind(0, 1, what));
            refused("42: behind(2, 1, " + what + ")", BAD, x -> x.behind(2, 1, what));
            refused("42: behind(4, 1, " + what + ")", BAD, x -> x.behind(4, 1, what));
            refused("42: behind(1, 1, " + what + ")", BAD, x -> x.behind(1, 1, what));
        }
        refused("42: into THE PEN", Starts::penned, STUCK, x -> x.behind(1, 1, 0));
        refused("43: into THE PEN", Starts::penned, STUCK, x -> x.done(1, 2));
    }

    private static void kinds() {
        int[][] kinds = {{-1, 0, 0, 0, BAD}, {8, 0, 0, 0, BAD}, {0, -1, 0, 0, BAD}, {0, 8, 0, 0, BAD}, {MIN, 4, 0, 0, BAD},
            {2, MAX, 0, 0, BAD}, {2, 4, -1, 0, BAD}, {2, 4, 41, 0, BAD}, {2, 4, 0, -1, BAD}, {2, 4, 0, 3, BAD}, {4, 4, MIN, 0, BAD},
            {4, 4, 0, MAX, BAD}, {2, 4, 0, 0, OTHER}, {4, 2, 40, 0, OTHER}, {2, 2, 0, 0, OTHER}, {2, 0, 8, 0, OTHER},
            {4, 0, 40, 0, NOTHING}, {0, 4, 40, 0, NOTHING}, {4, 7, 0, 0, NOTHING}, {6, 0, 4, 0, BAD}, {0, 6, 4, 0, BAD},
            {3, 6, 1, 0, BAD}, {6, 6, 3, 0, STUCK}, {6, 5, 3, 0, STUCK}, {5, 6, 3, 0, STUCK}, {1, 5, 3, 0, STUCK}};
        for (int[] k : kinds) {
            refused("40: kinds(" + k[0] + ", " + k[1] + ", " + k[2] + ", " + k[3] + ")", k[4], x -> x.kinds(k[0], k[1], k[2], k[3]));
        }
        Twins.Start penned = Starts::penned;
        refused("40: it is IN", penned, STUCK, x -> x.kinds(0, 0, 2, 0));
        refused("40: it is IN, no elements", penned, STUCK, x -> x.kinds(0, 0, 0, 0));
        refused("40: fewer elements ahead of IN", penned, BAD, x -> x.kinds(0, 0, 3, 0));
    }

    private static void truth() {
        for (int command : new int[] {-1, 5, MIN, MAX}) {
            refused("44: turn(" + command + ")", BAD, x -> x.turn(command));
        }
        refused("44: off the hill", STUCK, x -> x.turn(3));
        refused("44: into THE PEN", Starts::penned, STUCK, x -> x.turn(4));
        for (int n : new int[] {0, 61, -1, MIN, MAX}) {
            refused("45: evening(" + n + ")", BAD, x -> x.evening(n));
        }
        refused("48: nothing was kept", Starts::penned, STUCK, x -> x.back());
    }

    /** "nothing is refused", "NONE isn't refused", and what is no refusal as no line has one. */
    private static void notRefused() {
        int[][] elements = {{-1, 0}, {8, 0}, {MIN, 0}, {MAX, 0}, {0, -1}, {0, 7}, {0, MIN}, {0, MAX}, {2, 0}, {3, 0}, {4, 0}, {5, 40}};
        for (int[] e : elements) {
            answers("5: element(" + e[0] + ", " + e[1] + ")", 0, x -> x.element(e[0], e[1]));
        }
        for (int s : new int[] {-1, 8, 4, MIN, MAX}) {
            answers("6: holds(" + s + ")", -1, x -> x.holds(s));
        }
        for (int what : new int[] {-1, 17, MIN, MAX}) {
            answers("49: status(" + what + ")", -1, x -> x.status(what));
        }
        answers("21: NONE", -1, x -> x.fewest(6, -1));
        answers("29: NONE, a WALL", -1, x -> x.path(22));
        answers("29: NONE, THE PEN", -1, x -> x.path(11));
        answers("41: NONE", -1, x -> x.judge(0, 6));
        Twins.unchanged(DUE, "24: NONE", Starts::penned, x -> x.shy(0), -1);
        Twins.unchanged(DUE, "36: NONE", TwoWhistlesAndFiveEwes::new, x -> x.last(), -1);
        Twins.unchanged(DUE, "28: NONE", TwoWhistlesAndFiveEwes::new, x -> x.ewes(2), -1);
    }

    public static void main(String[] args) {
        rows();
        copies();
        shelves();
        hillOf();
        ewesOf();
        texts();
        searches();
        toldOnes();
        kinds();
        truth();
        notRefused();
        DUE.end();
    }
}
