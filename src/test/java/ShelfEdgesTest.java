/** The edges that promises 1 to 8 and the terms of SHELVES name; what is refused there is in RefusalsTest, too. */
public final class ShelfEdgesTest {
    private static final Due DUE = new Due("ShelfEdgesTest");

    private static TwoWhistlesAndFiveEwes fresh() {
        return new TwoWhistlesAndFiveEwes();
    }

    /** "An object is used for at most 512 calls": the last one's answer is due, too. */
    private static void theLastCall() {
        TwoWhistlesAndFiveEwes x = fresh();
        for (int i = 1; i < 512; i++) {
            DUE.is("512 calls: refused, call " + i, x.turn(9), -2);
        }
        DUE.is("512 calls: the last", x.status(12), 511);
        x = fresh();
        for (int i = 1; i < 512; i++) {
            DUE.is("512 calls: evening(60), call " + i, x.evening(60), 0);
        }
        DUE.is("512 calls: TURNS", x.status(5), 511 * 60);
    }

    /** 1: "SIDE 6, no WALLS, no EWES; SHELVES hold NOTHING; THE TAPE is empty". */
    private static void newObject() {
        TwoWhistlesAndFiveEwes x = fresh();
        for (int row = 0; row < 6; row++) {
            for (int column = 0; column < 6; column++) {
                DUE.is("1: no WALL", x.hasWall(10 * row + column), 0);
            }
        }
        DUE.is("1: SIDE 6", x.hasWall(66), -2);
        DUE.is("1: no EWE 0", x.eweOf(0, 0), -2);
        for (int s = 0; s < 8; s++) {
            DUE.is("1: NOTHING in SHELF " + s, x.set(s, 0, 1), -4);
        }
        DUE.is("1: THE TAPE is empty", x.wipe(), 0);
        DUE.is("1: an empty HILL", x.hill(), -20);
        DUE.is("1: no image", x.back(), -5);
    }

    /** "SHELVES 0 to 7": eight, each with its own. */
    private static void eightShelves() {
        TwoWhistlesAndFiveEwes x = fresh();
        for (int s = 0; s < 8; s++) {
            DUE.is("2: row(" + s + ", 3, " + (s + 1) + ")", x.row(s, 3, s + 1), 1);
            DUE.is("3: its last element", x.set(s, s, 100 + s), 1);
            DUE.is("11: SHELVES that hold something", x.status(11), s + 1);
        }
        for (int s = 0; s < 8; s++) {
            DUE.is("5: SHELF " + s + " kept its own", x.element(s, s), 100 + s);
            DUE.is("3: one too far in SHELF " + s, x.set(s, s + 1, 1), -2);
        }
    }

    /** "A ROW has a SORT (0 .. 4) and 0 to 40 elements (0, or not so, at first)". */
    private static void noneToForty() {
        for (int sort = 0; sort < 5; sort++) {
            TwoWhistlesAndFiveEwes x = fresh();
            String of = " of SORT " + sort;
            DUE.is("2: no elements" + of, x.row(0, sort, 0), 1);
            DUE.is("6: held" + of, x.holds(0), sort);
            DUE.is("3: none to set" + of, x.set(0, 0, 1), -2);
            DUE.is("5: none" + of, x.element(0, 0), 0);
            DUE.is("2: 40 elements" + of, x.row(0, sort, 40), 1);
            for (int i = 0; i < 40; i++) {
                DUE.is("2: 0 at first, element " + i + of, x.element(0, i), 0);
            }
            for (int i = 0; i < 40; i++) {
                DUE.is("3: set " + i + of, x.set(0, i, 1), 1);
            }
            DUE.is("3: set 40" + of, x.set(0, 40, 1), -2);
            DUE.is("3: set -1" + of, x.set(0, -1, 1), -2);
            DUE.is("5: element 0" + of, x.element(0, 0), 1);
            DUE.is("5: element 39" + of, x.element(0, 39), 1);
            DUE.is("5: element 40" + of, x.element(0, 40), 0);
            DUE.is("5: element -1" + of, x.element(0, -1), 0);
            DUE.is("2: a new ROW" + of, x.row(0, sort, 40), 1);
            for (int i = 0; i < 40; i++) {
                DUE.is("2: 0 again, element " + i + of, x.element(0, i), 0);
            }
            DUE.is("2: 41 elements" + of, x.row(0, sort, 41), -2);
            DUE.is("2: -1 elements" + of, x.row(0, sort, -1), -2);
        }
    }

    /** "what is put in keeps its lowest bits (of booleans: whether it is not 0); told they are numbers (1, 0)". */
    private static void lowestBits() {
        long min = Long.MIN_VALUE;
        long max = Long.MAX_VALUE;
        long[][] due = {
            {0, 127, 127}, {0, 128, -128}, {0, 255, -1}, {0, 256, 0}, {0, 257, 1}, {0, -128, -128}, {0, -129, 127}, {0, -256, 0},
            {0, max, -1}, {0, min, 0}, {0, 0x1234567890ABCD7FL, 0x7F},
            {1, 32767, 32767}, {1, 32768, -32768}, {1, 65535, -1}, {1, 65536, 0}, {1, -32768, -32768}, {1, -32769, 32767},
            {1, max, -1}, {1, min, 0}, {1, 255, 255}, {1, -129, -129},
            {2, 2147483647L, 2147483647L}, {2, 2147483648L, -2147483648L}, {2, 4294967295L, -1}, {2, 4294967296L, 0},
            {2, -2147483648L, -2147483648L}, {2, -2147483649L, 2147483647L}, {2, max, -1}, {2, min, 0}, {2, 65536, 65536},
            {3, max, max}, {3, min, min}, {3, -1, -1}, {3, 4294967296L, 4294967296L},
            {4, 0, 0}, {4, 1, 1}, {4, 2, 1}, {4, -1, 1}, {4, 256, 1}, {4, 4294967296L, 1}, {4, max, 1}, {4, min, 1}};
        TwoWhistlesAndFiveEwes x = fresh();
        for (long[] d : due) {
            x.row(0, (int) d[0], 3);
            x.set(0, 1, d[1]);
            DUE.is("3: SORT " + d[0] + " keeps of " + d[1], x.element(0, 1), d[2]);
            DUE.is("3: the element ahead", x.element(0, 0), 0);
            DUE.is("3: the element behind", x.element(0, 2), 0);
        }
        x = fresh();
        x.row(0, 4, 1);
        x.set(0, 0, 7);
        x.set(0, 0, 0);
        DUE.is("3: a boolean not so again", x.element(0, 0), 0);
    }

    private static void elementsAre(TwoWhistlesAndFiveEwes x, String why, int s, int first, int... due) {
        for (int i = 0; i < due.length; i++) {
            DUE.is(why + ", element " + (first + i), x.element(s, first + i), due[i]);
        }
    }

    /** 4: "n elements .. come to places j on of that in q (as they were): n". */
    private static void copies() {
        TwoWhistlesAndFiveEwes x = fresh();
        x.row(0, 2, 40);
        for (int i = 0; i < 40; i++) {
            x.set(0, i, 100 + i);
        }
        x.row(1, 2, 40);
        DUE.is("4: all 40", x.copy(0, 1, 0, 0, 40), 40);
        elementsAre(x, "4: all 40", 1, 38, 138, 139);
        DUE.is("4: the last to the first", x.copy(0, 1, 39, 0, 1), 1);
        elementsAre(x, "4: the last to the first", 1, 0, 139, 101);
        DUE.is("4: the first to the last", x.copy(0, 1, 0, 39, 1), 1);
        elementsAre(x, "4: the first to the last", 1, 38, 138, 100);
        DUE.is("4: one too many from", x.copy(0, 1, 1, 0, 40), -2);
        DUE.is("4: one too many to", x.copy(0, 1, 0, 1, 40), -2);
        DUE.is("4: 41", x.copy(0, 1, 0, 0, 41), -2);
        DUE.is("4: none", x.copy(0, 1, 3, 5, 0), 0);
        elementsAre(x, "4: none", 1, 4, 104, 105, 106);
        DUE.is("4: onto itself, one on", x.copy(0, 0, 0, 1, 39), 39);
        elementsAre(x, "4: as they were, one on", 0, 0, 100, 100, 101, 102);
        elementsAre(x, "4: as they were, one on", 0, 38, 137, 138);
        DUE.is("4: onto itself, one back", x.copy(0, 0, 1, 0, 39), 39);
        elementsAre(x, "4: as they were, one back", 0, 0, 100, 101, 102);
        elementsAre(x, "4: as they were, one back", 0, 37, 137, 138, 138);
        DUE.is("4: onto itself, in place", x.copy(0, 0, 0, 0, 40), 40);
        elementsAre(x, "4: in place", 0, 37, 137, 138, 138);
        x.row(2, 2, 0);
        DUE.is("4: none from an empty ROW", x.copy(2, 0, 0, 0, 0), 0);
        DUE.is("4: none to an empty ROW", x.copy(0, 2, 0, 0, 0), 0);
        DUE.is("4: one from an empty ROW", x.copy(2, 0, 0, 0, 1), -2);
        DUE.is("4: one to an empty ROW", x.copy(0, 2, 0, 0, 1), -2);
        DUE.is("4: what was copied goes its own way", x.set(0, 2, 7), 1);
        elementsAre(x, "4: the copy", 1, 2, 102);
    }

    /** 4: "OTHER (also ROWS of two SORTS, if both hold something); NOTHING". */
    private static void copiesOfSorts() {
        for (int from = 0; from < 5; from++) {
            for (int to = 0; to < 5; to++) {
                TwoWhistlesAndFiveEwes x = fresh();
                x.row(0, from, 2);
                x.row(1, to, 2);
                x.set(0, 0, 1);
                DUE.is("4: SORT " + from + " to " + to, x.copy(0, 1, 0, 1, 1), from == to ? 1 : -3);
                DUE.is("4: came", x.element(1, 1), from == to ? 1 : 0);
                DUE.is("4: SORT " + from + " to NOTHING", x.copy(0, 2, 0, 0, 1), -4);
                DUE.is("4: NOTHING to SORT " + to, x.copy(2, 1, 0, 0, 1), -4);
                DUE.is("4: still NOTHING", x.holds(2), -1);
            }
        }
    }

    /** 6 and 7: "10 and the number of a EWE", five at most; a EWE in the place of a ROW, NOTHING in the place of either. */
    private static void ewesInShelves() {
        TwoWhistlesAndFiveEwes x = fresh();
        DUE.is("7: no EWES yet", x.show(0, 0), -2);
        DUE.is("7: NOTHING in an empty SHELF", x.show(0, -1), 1);
        DUE.is("6: NOTHING", x.holds(0), -1);
        for (int e = 0; e < 5; e++) {
            DUE.is("7: not yet " + e, x.show(e, e), -2);
            x.ewe(0, e, 10 + e);
            DUE.is("7: show(" + e + ", " + e + ")", x.show(e, e), 1);
            DUE.is("6: holds EWE " + e, x.holds(e), 10 + e);
        }
        DUE.is("7: a sixth", x.show(0, 5), -2);
        DUE.is("7: one EWE in two SHELVES", x.show(7, 4), 1);
        DUE.is("6: in both", x.holds(7) * 100 + x.holds(4), 1414);
        Due.fill(x, 6, 2, 8, 9);
        x.show(6, 3);
        DUE.is("5: no ROW any more, element 0", x.element(6, 0), 0);
        DUE.is("3: no ROW any more", x.set(6, 0, 1), -3);
        x.show(6, -1);
        DUE.is("5: NOTHING any more", x.element(6, 1), 0);
        DUE.is("3: NOTHING any more", x.set(6, 0, 1), -4);
        DUE.is("2: a ROW in a EWE's place", x.row(4, 1, 3), 1);
        DUE.is("6: the ROW", x.holds(4), 1);
    }

    /** 8: "taken for one of a KIND": its own KIND and those that it is under; "EWE its a". */
    private static void saysByKinds() {
        // 1 for each KIND (the second index) as which a EWE of a KIND (the first) may be taken
        int[][] is = {{1, 0, 0, 0, 0, 0}, {1, 1, 0, 0, 0, 0}, {1, 0, 1, 0, 0, 0}, {1, 1, 0, 1, 0, 0}, {1, 0, 1, 0, 1, 0},
            {1, 0, 0, 0, 0, 1}};
        // THE DOG is 3 STEPS away: a WILD one goes three times, whatever it is taken for
        int[] to = {23, 23, 23, 3, 23, 23};
        for (int own = 0; own < 6; own++) {
            TwoWhistlesAndFiveEwes x = fresh();
            x.ewe(own, 9 - own, 33);
            x.show(0, 0);
            x.dog(30);
            for (int kind = 0; kind < 6; kind++) {
                long due = kind == 0 ? 9 - own : to[own];
                DUE.is("8: KIND " + own + " says as " + kind, x.says(0, kind), is[own][kind] == 0 ? -3 : due);
            }
        }
    }

    /** 8: "its own, if it is IN or stays", "all others are where they are now", "by its own KIND". */
    private static void saysWhereTo() {
        TwoWhistlesAndFiveEwes x = fresh();
        x.ewe(3, 0, 33);
        x.ewe(5, 9, 35);
        x.show(0, 0);
        x.show(1, 1);
        x.dog(31);
        // 34, 35, and of 25 and 45, as near to the LEADER at 35, the first
        DUE.is("8: three times, the LEADER being where it is now", x.says(0, 1), 25);
        DUE.is("8: the LEADER", x.says(1, 5), 25);
        DUE.is("8: nothing went", x.eweOf(0, 2) * 100 + x.eweOf(1, 2), 3335);
        DUE.is("8: THE DOG did nothing", x.status(5), 0);
        x.move(0, 0);
        x.dog(1);
        DUE.is("8: IN", x.says(0, 3), 0);
        DUE.is("8: IN, its a all the same", x.says(0, 0), 0);
        x.move(0, 5);
        x.dog(50);
        DUE.is("8: stays, no CELL is farther", x.says(0, 3), 5);
    }

    public static void main(String[] args) {
        theLastCall();
        newObject();
        eightShelves();
        noneToForty();
        lowestBits();
        copies();
        copiesOfSorts();
        ewesInShelves();
        saysByKinds();
        saysWhereTo();
        DUE.end();
    }
}
