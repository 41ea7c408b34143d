/** Objects from which tests start. */
final class Starts {
    private Starts() {
    }

    /** Nothing is at its first value here, and an image differs from what is. */
    static TwoWhistlesAndFiveEwes rich() {
        TwoWhistlesAndFiveEwes x = new TwoWhistlesAndFiveEwes();
        x.side(7);
        x.pen(11);
        x.wall(22, true);
        x.wall(45, true);
        x.ewe(0, 3, 33);
        x.ewe(5, 9, 44);
        x.ewe(4, 0, 66);
        x.dog(60);
        x.turn(1);
        x.wind(7);
        x.seed(99);
        Due.fill(x, 0, 0, 1, 4, 2, 3, 0, 0, 5);
        Due.fill(x, 1, 3, 3, 0, 70, -1);
        x.show(2, 1);
        x.row(3, 1, 0);
        x.row(5, 4, 40);
        Due.fill(x, 6, 0, 50, 40, 67);
        Due.feedAll(x, "wind 9");
        x.image();
        x.turn(0);
        return x;
    }

    /** No room for a EWE nor for a byte. */
    static TwoWhistlesAndFiveEwes full() {
        TwoWhistlesAndFiveEwes x = new TwoWhistlesAndFiveEwes();
        x.wall(22, true);
        for (int cell = 1; cell <= 5; cell++) {
            x.ewe(cell, 3, cell);
        }
        Due.feedAll(x, " ".repeat(245) + "gap 1");
        return x;
    }

    /** EWE 0 is IN, THE DOG beside THE PEN. */
    static TwoWhistlesAndFiveEwes penned() {
        TwoWhistlesAndFiveEwes x = new TwoWhistlesAndFiveEwes();
        x.pen(34);
        x.ewe(3, 2, 34);
        x.ewe(0, 0, 12);
        x.dog(33);
        Due.fill(x, 0, 0, 33, 33);
        Due.fill(x, 1, 0, 4, 0);
        return x;
    }

    static TwoWhistlesAndFiveEwes large(int pen, int dog) {
        TwoWhistlesAndFiveEwes x = new TwoWhistlesAndFiveEwes();
        x.side(7);
        x.pen(pen);
        x.dog(dog);
        return x;
    }

    /** WALLS on all CELLS but those told, and those of THE PEN and THE DOG. */
    static TwoWhistlesAndFiveEwes onlyOpen(int pen, int dog, int... open) {
        TwoWhistlesAndFiveEwes x = large(pen, dog);
        for (int i = 0; i < 49; i++) {
            x.wall(i / 7 * 10 + i % 7, true);
        }
        for (int cell : open) {
            x.wall(cell, false);
        }
        return x;
    }

    /** A LEADER that goes into THE PEN in three TURNS, if THE DOG stays. */
    static TwoWhistlesAndFiveEwes threeTurns() {
        TwoWhistlesAndFiveEwes x = large(0, 16);
        x.ewe(5, 9, 3);
        return x;
    }

    /** A EWE that comes IN as soon as THE DOG is at 13, 22 or 31. */
    static TwoWhistlesAndFiveEwes oneEwe(int dog) {
        TwoWhistlesAndFiveEwes x = large(0, dog);
        x.ewe(0, 0, 1);
        return x;
    }
}
