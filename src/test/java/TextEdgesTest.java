/** The edges of a HILL read from THE TAPE, as the terms name them, and promise 18. */
public final class TextEdgesTest {
    private static final Due DUE = new Due("TextEdgesTest");

    private static TwoWhistlesAndFiveEwes fresh() {
        return new TwoWhistlesAndFiveEwes();
    }

    /** What hill answers to a text on a new object; a FAULT is refused, and THE TAPE is empty then, either way. */
    private static void due(String why, String text, int due) {
        TwoWhistlesAndFiveEwes x = fresh();
        DUE.is("18: " + why + " '" + text + "'", Due.hill(x, text), due);
        DUE.is("18: refused, '" + text + "'", x.status(12), due < 0 ? 1 : 0);
        DUE.is("18: THE TAPE is empty behind '" + text + "'", x.status(9), 0);
    }

    /** "side N (only as many or more; ..)", 3 to 7. */
    private static void sideStatements() {
        for (int n = 0; n < 100; n++) {
            due("side", "side " + n, n == 6 || n == 7 ? 1 : -25);
        }
        due("as many, once more", "side 7;side 7", 2);
        due("fewer than the STATEMENT ahead", "side 7;side 6", -32);
        due("THE DOG there ahead of it", "dog 66;side 7", -24);
        due("THE DOG there behind it", "side 7;dog 66", 2);
        TwoWhistlesAndFiveEwes x = fresh();
        DUE.is("18: a larger SIDE", Due.hill(x, "dog 54;side 7"), 2);
        DUE.is("18: THE DOG stays where it is", x.status(3), 54);
        x = fresh();
        Due.hill(x, "side 7");
        DUE.is("18: THE DOG stays where it was at first", x.status(3), 55);
    }

    /** Each NUMBER that is a CELL: on SIDE 6 THE PEN is at 0, THE DOG at 55. */
    private static void cellStatements() {
        for (int cell = 0; cell < 100; cell++) {
            boolean is = cell / 10 < 6 && cell % 10 < 6;
            due("wall", "wall " + cell, is && cell != 0 && cell != 55 ? 1 : -25);
            due("gap", "gap " + cell, is ? 1 : -24);
            due("pen", "pen " + cell, is && cell != 55 ? 1 : -24);
            due("dog", "dog " + cell, is && cell != 0 ? 1 : -24);
            due("ewe", "ewe 0 0 " + cell, is ? 1 : -28);
            boolean isThen = cell / 10 < 7 && cell % 10 < 7;
            due("gap on SIDE 7", "side 7;gap " + cell, isThen ? 2 : -31);
        }
    }

    /** "wall C (not at THE PEN, THE DOG, a EWE); gap C; pen C (not at a WALL, THE DOG, a EWE); dog C (not at a WALL, THE PEN)". */
    private static void statementsBehindOthers() {
        due("a WALL where THE PEN was", "pen 1;wall 0", 2);
        due("a WALL where THE PEN is", "pen 1;wall 1", -31);
        due("a WALL where THE DOG was", "dog 1;wall 55", 2);
        due("a WALL where THE DOG is", "dog 1;wall 1", -31);
        due("a WALL at a EWE", "ewe 0 0 1;wall 1", -35);
        due("a WALL at a WALL", "wall 1;wall 1", 2);
        due("a gap at THE PEN, THE DOG, no WALL", "gap 0;gap 55;gap 1", 3);
        due("a gap at a WALL, twice", "wall 1;gap 1;gap 1", 3);
        due("THE PEN at a WALL", "wall 1;pen 1", -31);
        due("THE PEN where a WALL was", "wall 1;gap 1;pen 1", 3);
        due("THE PEN where THE DOG was", "dog 1;pen 55", 2);
        due("THE PEN where THE DOG is", "dog 1;pen 1", -30);
        due("THE PEN at a EWE", "ewe 0 0 1;pen 1", -34);
        due("THE PEN where it is", "pen 0;pen 0", 2);
        due("THE PEN where it is, a EWE being IN", "ewe 0 0 0;pen 0", -34);
        due("THE PEN elsewhere, a EWE being IN", "ewe 0 0 0;pen 1", -34);
        due("THE DOG at a WALL", "wall 1;dog 1", -31);
        due("THE DOG where a WALL was", "wall 1;gap 1;dog 1", 3);
        due("THE DOG where THE PEN was", "pen 1;dog 0", 2);
        due("THE DOG where THE PEN is", "pen 1;dog 1", -30);
        due("THE DOG at a EWE", "ewe 0 0 1;dog 1", 2);
        due("a EWE at a WALL", "wall 1;ewe 0 0 1", -35);
        due("a EWE where a WALL was", "wall 1;gap 1;ewe 0 0 1", 3);
        due("EWES at THE PEN, THE DOG, one another", "ewe 0 0 0;ewe 0 0 55;ewe 0 0 55", 3);
    }

    /** "ewe K A C", "wind N". */
    private static void smallNumbers() {
        for (int n = 0; n < 100; n++) {
            due("KIND", "ewe " + n + " 0 1", n <= 5 ? 1 : -24);
            due("a", "ewe 0 " + n + " 1", n <= 9 ? 1 : -26);
            due("WIND", "wind " + n, n <= 12 ? 1 : -25);
        }
        TwoWhistlesAndFiveEwes x = fresh();
        DUE.is("18: the most of each", Due.hill(x, "ewe 5 9 54;wind 12"), 2);
        DUE.is("18: KIND", x.eweOf(0, 0), 5);
        DUE.is("18: a", x.eweOf(0, 1), 9);
        DUE.is("18: CELL", x.eweOf(0, 2), 54);
        DUE.is("18: WIND", x.status(4), 12);
        DUE.is("18: the least of each", Due.hill(x, "ewe 0 0 0;wind 0"), 2);
        DUE.is("18: its CELL", x.eweOf(1, 2), 0);
        DUE.is("18: no WIND", x.status(4), 0);
    }

    /** "a NUMBER that .. has more than 2 digits", even if what it tells may be. */
    private static void digits() {
        due("2 digits", "side 07", 1);
        due("3 digits", "side 007", -25);
        due("2 digits", "wall 01", 1);
        due("3 digits", "wall 001", -25);
        due("3 digits", "gap 001", -24);
        due("3 digits", "pen 001", -24);
        due("3 digits", "dog 001", -24);
        due("2 digits", "ewe 00 00 00", 1);
        due("3 digits of K", "ewe 000 0 0", -24);
        due("3 digits of A", "ewe 0 000 0", -26);
        due("3 digits of C", "ewe 0 0 000", -28);
        due("2 digits", "wind 00", 1);
        due("3 digits", "wind 012", -25);
        due("246 digits", "wall" + "1".repeat(246), -24);
        due("more than an int holds", "wall 4294967297", -25);
        due("more than a long holds", "wall 18446744073709551617", -25);
    }

    /** "what there is no room for: its word": 5 EWES at most. */
    private static void noRoom() {
        String five = "ewe 0 0 1;ewe 1 1 2;ewe 2 2 3;ewe 3 3 4;ewe 4 4 5";
        due("five", five, 5);
        due("a sixth", five + ";ewe 0 0 1", -70);
        due("a sixth behind blanks", five + ";  ewe 0 0 1", -72);
        due("a sixth behind another STATEMENT", five + ";gap 1;ewe 0 0 1", -76);
        due("all else behind five", five + ";gap 1;wind 1", 7);
        TwoWhistlesAndFiveEwes x = fresh();
        x.ewe(0, 0, 1);
        x.ewe(0, 0, 1);
        x.ewe(0, 0, 1);
        DUE.is("18: three there, three told", Due.hill(x, "ewe 0 0 1;ewe 0 0 1;ewe 0 0 1"), -40);
        DUE.is("18: none of them came", x.status(0), 3);
        DUE.is("18: three there, two told", Due.hill(x, "ewe 0 0 1;ewe 5 0 1"), 2);
        DUE.is("18: five there", x.status(0), 5);
        DUE.is("18: five there, one told", Due.hill(x, "ewe 0 0 1"), -20);
        DUE.is("18: that is BAD, not FULL", x.status(12) * 10 + x.status(16), 20);
    }

    /** "THE TAPE's size, if it ends too early", at each place where it can end. */
    private static void endsTooEarly() {
        String text = "ewe 0 9 12;wind 12";
        int[] due = {-20, -20, -20, -23, -24, -25, -26, -27, -28, 1, 1, -31, -31, -31, -31, -35, -36, 2, 2};
        for (int size = 0; size <= text.length(); size++) {
            due("ends at " + size, text.substring(0, size), due[size]);
        }
        for (String word : new String[] {"side", "wall", "gap", "pen", "dog", "ewe", "wind"}) {
            due("no NUMBER", word, -20 - word.length());
            due("no NUMBER but a blank", word + " ", -21 - word.length());
            due("a SIGN for a NUMBER", word + ";", -20 - word.length());
            due("a WORD for a NUMBER", word + " " + word, -21 - word.length());
        }
        due("blanks alone", "   ", -23);
        due("nothing behind the SIGN", "gap 1;", -26);
        due("blanks behind the SIGN", "gap 1;  ", -28);
    }

    /** "TOKENS, each as long as can be: WORDS (a .. z), NUMBERS (digits), the SIGN ; - blanks (32) may stand anywhere between". */
    private static void tokens() {
        due("no blanks", "side7;gap1;ewe5 9 1;wind0", 4);
        due("blanks between all", "  side   7  ;  gap   1 ; ewe  5  9  1  ", 3);
        due("a blank in a WORD", "si de 7", -20);
        due("a blank in a NUMBER", "gap 1 1", -26);
        due("NUMBERS without a blank between", "ewe 09 1", -24);
        due("NUMBERS without blanks between", "ewe 091", -24);
        due("WORDS without a blank between", "gapgap 1", -20);
        due("a longer WORD", "gaps 1", -20);
        for (String statement : new String[] {"side 7", "wall 1", "gap 1", "pen 1", "dog 1", "ewe 0 0 1", "wind 1"}) {
            due("a WORD", statement, 1);
            for (int i = 0; i < statement.indexOf(' '); i++) {
                due("another letter", statement.substring(0, i) + "x" + statement.substring(i + 1), -20);
                due("a letter twice", statement.substring(0, i) + statement.substring(i, i + 1) + statement.substring(i), -20);
            }
        }
        due("a shorter WORD", "ga 1", -20);
        due("no SIGN between", "gap 1 gap 2", -26);
        due("two SIGNS", "gap 1;;gap 2", -26);
        due("two SIGNS, blanks between", "gap 1 ; ; gap 2", -28);
        due("the SIGN first", ";gap 1", -20);
        due("a NUMBER first", "1 gap", -20);
        due("a NUMBER too many", "gap 1 2", -26);
        due("a WORD behind a NUMBER", "gap 1gap", -25);
        due("a WORD of 250 bytes", "gap".repeat(83) + "g", -20);
        due("the first FAULT of two", "gap 9;gap 8", -24);
    }

    private static boolean isLetter(int b) {
        return b > 96 && b < 123;
    }

    private static boolean isDigit(int b) {
        return b > 47 && b < 58;
    }

    /** "a byte that begins none", and each byte at each place of a text. */
    private static void bytes() {
        int semicolon = 59;
        for (int b = 0; b <= 255; b++) {
            String sign = String.valueOf((char) b);
            due("byte " + b + " first", sign + "side 7", b == 32 ? 1 : -20);
            due("byte " + b + " in a WORD", "si" + sign + "de 7", -20);
            due("byte " + b + " between WORD and NUMBER", "side" + sign + "7", b == 32 || b == '0' ? 1 : isLetter(b) ? -20 : -24);
            int inNumber = isDigit(b) ? -25 : b == 32 || b == semicolon ? -27 : -26;
            due("byte " + b + " in a NUMBER", "wall 2" + sign + "2", inNumber);
            int atEnd = b == 32 ? 1 : isDigit(b) ? -25 : b == semicolon ? -27 : -26;
            due("byte " + b + " last", "side 7" + sign, atEnd);
            due("byte " + b + " behind the SIGN", "side 7;" + sign, b == 32 ? -28 : -27);
            due("byte " + b + " behind a WORD and ahead of a blank", "wind" + sign + " ", isLetter(b) ? -20 : b == 32 ? -26
                : isDigit(b) ? 1 : -24);
        }
    }

    /** "THE TAPE (bytes, 250 at most)": full ones; "how many STATEMENTS", one or more. */
    private static void fullTapes() {
        due("50 STATEMENTS", "gap1;".repeat(49) + "gap1", 50);
        due("50 STATEMENTS on a full TAPE", "gap1;".repeat(49) + " gap1", 50);
        due("50 STATEMENTS and a SIGN too many", "gap1;".repeat(50), -270);
        due("a full TAPE of blanks", " ".repeat(250), -270);
        due("a FAULT at the last byte", " ".repeat(249) + "#", -269);
        due("a full TAPE that ends too early", " ".repeat(247) + "gap", -270);
        due("one STATEMENT at the end of a full TAPE", " ".repeat(245) + "gap 1", 1);
        due("one STATEMENT at the beginning of a full TAPE", "gap 1" + " ".repeat(245), 1);
        due("one STATEMENT", "gap 1", 1);
        due("none", "", -20);
    }

    /** "All comes to what there is, or nothing": the same comes by the calls. */
    private static void comesToWhatThereIs() {
        TwoWhistlesAndFiveEwes told = fresh();
        told.wall(22, true);
        told.ewe(1, 1, 11);
        told.turn(3);
        told.feed(300);
        DUE.is("18: HILL", Due.hill(told, "side 7;wall 33;gap 22;pen 44;dog 65;ewe 4 7 66;wind 9"), 7);
        TwoWhistlesAndFiveEwes called = fresh();
        called.wall(22, true);
        called.ewe(1, 1, 11);
        called.turn(3);
        called.feed(300);
        called.side(7);
        called.wall(33, true);
        called.wall(22, false);
        called.pen(44);
        called.dog(65);
        called.ewe(4, 7, 66);
        called.wind(9);
        Twins.areAlike(DUE, "18: by HILL as by calls", told, called, Twins.NO_REFUSAL);
    }

    private static TwoWhistlesAndFiveEwes withTape(String text) {
        TwoWhistlesAndFiveEwes x = fresh();
        x.ewe(1, 1, 11);
        x.turn(3);
        Due.feedAll(x, text);
        return x;
    }

    /** ".. or nothing": a FAULT in the last STATEMENT leaves nothing of all those ahead. */
    private static void comesToNothing() {
        String[] last = {"gap 9", "gap", "gap ", "", "gap 1 1", "gap 001", "#", "wall 44", "pen 33", "dog 44", "side 6", "wind 13"};
        for (String l : last) {
            TwoWhistlesAndFiveEwes told = withTape("side 7;wall 33;gap 22;pen 44;dog 65;ewe 4 7 66;wind 9;" + l);
            DUE.is("18: a FAULT in '" + l + "'", told.hill() < 0 ? 1 : 0, 1);
            Twins.areAlike(DUE, "18: nothing comes with '" + l + "'", told, withTape(""), -2);
        }
    }

    /** "-20 less the FAULT (that is refused, too: BAD). THE TAPE is empty then, either way". */
    private static void refusedToo() {
        TwoWhistlesAndFiveEwes x = fresh();
        for (int i = 1; i <= 5; i++) {
            DUE.is("18: a FAULT at 2", Due.hill(x, "  #"), -22);
            DUE.is("49: BAD, counted", x.status(12), i);
            DUE.is("18: nothing is left on THE TAPE", x.wipe(), 0);
            DUE.is("18: a HILL", Due.hill(x, "gap 1"), 1);
            DUE.is("49: BAD, not counted", x.status(12), i);
            DUE.is("18: nothing is left on THE TAPE", x.wipe(), 0);
        }
    }

    public static void main(String[] args) {
        sideStatements();
        cellStatements();
        statementsBehindOthers();
        smallNumbers();
        digits();
        noRoom();
        endsTooEarly();
        tokens();
        bytes();
        fullTapes();
        comesToWhatThereIs();
        comesToNothing();
        refusedToo();
        DUE.end();
    }
}
