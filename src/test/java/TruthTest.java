/** Promises 43 and 45 to 49: in truth, images, and status. Promise 44 is in TurnTest. */
public final class TruthTest {
    private static final Due DUE = new Due("TruthTest");

    private static TwoWhistlesAndFiveEwes fresh() {
        return new TwoWhistlesAndFiveEwes();
    }

    private static void done() {
        TwoWhistlesAndFiveEwes x = fresh();
        x.ewe(0, 0, 1);
        x.dog(15);
        Due.fill(x, 0, 0, 3, 3, 1, 1, 5);
        DUE.is("43: none", x.done(0, 0), 0);
        DUE.is("43: off the hill", x.done(0, 4), -5);
        DUE.is("43: no COMMAND", x.done(0, 5), -5);
        DUE.is("43: nothing done", x.status(3) * 10 + x.status(5), 150);
        DUE.is("43: done(0, 3)", x.done(0, 3), 1);
        DUE.is("43: THE DOG", x.status(3), 3);
        DUE.is("43: TURNS", x.status(5), 3);
        DUE.is("43: what it did", x.status(8), 1);
        DUE.is("43: IN", x.status(6), 1);
        int[][] bad = {{8, 0}, {-1, 0}, {0, -1}, {0, 41}, {0, 6}, {7, 41}};
        for (int[] b : bad) {
            DUE.is("43: done(" + b[0] + ", " + b[1] + ")", x.done(b[0], b[1]), -2);
        }
        DUE.is("43: NOTHING", x.done(7, 40), -4);
        x.show(2, 0);
        DUE.is("43: OTHER", x.done(2, 40), -3);
        x.row(1, 4, 40);
        DUE.is("43: forty stays", x.done(1, 40), 1);
        DUE.is("43: forty TURNS more", x.status(5), 43);
    }

    private static void evening() {
        TwoWhistlesAndFiveEwes x = fresh();
        DUE.is("45: evening(0)", x.evening(0), -2);
        DUE.is("45: evening(61)", x.evening(61), -2);
        DUE.is("45: evening(-1)", x.evening(-1), -2);
        DUE.is("45: no draw", x.status(10), 1);
        x.dog(33);
        x.wind(0);
        int seed = 1;
        int dog = 33;
        int[] ways = {0, -10, 10, -1, 1};
        int command = 0;
        for (int t = 0; t < 3; t++) {
            seed = seed * 1103515245 + 12345;
            command = (seed >>> 16) % 5;
            seed = seed * 1103515245 + 12345;
            dog += ways[command];
        }
        DUE.is("45: no EWES", x.evening(3), 0);
        DUE.is("45: THE DOG, always heard", x.status(3), dog);
        DUE.is("45: SEED", x.status(10), seed);
        DUE.is("45: TURNS", x.status(5), 3);
        DUE.is("45: what it did", x.status(8), command);
        x = fresh();
        x.dog(32);
        x.turn(4);
        x.wind(12);
        DUE.is("45: never heard", x.evening(3), 0);
        DUE.is("45: as it did", x.status(3), 35);
        DUE.is("45: as it did, what it can't do counts", x.status(8), 4);
        DUE.is("45: the same draws", x.status(10), seed);
        DUE.is("45: TURNS then", x.status(5), 4);
        x = fresh();
        x.ewe(0, 0, 1);
        x.dog(14);
        x.turn(3);
        x.move(0, 1);
        x.wind(12);
        x.ewe(0, 0, 0);
        DUE.is("45: one comes IN, one was", x.evening(60), 1);
        DUE.is("45: 60 TURNS", x.status(5), 61);
    }

    private static void windInTheEvening() {
        // by the first two draws 3 is whistled, and heard if WIND is not above the second
        int first = 1 * 1103515245 + 12345;
        int second = first * 1103515245 + 12345;
        int whistled = (first >>> 16) % 5;
        int draw = (second >>> 16) % 12;
        for (int wind = 0; wind <= 12; wind++) {
            TwoWhistlesAndFiveEwes x = fresh();
            x.dog(33);
            x.wind(wind);
            x.evening(1);
            DUE.is("45: WIND " + wind, x.status(8), draw < wind ? 0 : whistled);
        }
        DUE.is("45: something is whistled", whistled, 3);
    }

    private static void seed() {
        TwoWhistlesAndFiveEwes x = fresh();
        DUE.is("46: seed(-7)", x.seed(-7), 1);
        DUE.is("46: seed(MIN)", x.seed(Integer.MIN_VALUE), -7);
        DUE.is("46: seed(0)", x.seed(0), Integer.MIN_VALUE);
        x.seed(-1);
        x.evening(1);
        int seed = -1 * 1103515245 + 12345;
        seed = seed * 1103515245 + 12345;
        DUE.is("46: drawn from", x.seed(-2), seed);
        DUE.is("46: told", x.seed(4), -2);
        DUE.is("46: nothing refused", x.status(12), 0);
    }

    private static void images() {
        TwoWhistlesAndFiveEwes x = fresh();
        DUE.is("48: nothing was kept", x.back(), -5);
        x.pen(11);
        x.wall(22, true);
        x.ewe(5, 4, 33);
        x.dog(32);
        x.turn(4);
        x.wind(7);
        x.seed(99);
        long[] was = new long[9];
        for (int what = 0; what < was.length; what++) {
            was[what] = x.status(what);
        }
        int cell = x.eweOf(0, 2);
        DUE.is("47: image", x.image(), 1);
        x.side(7);
        x.pen(66);
        x.wall(22, false);
        x.wall(25, true);
        x.wall(24, true);
        x.move(0, 66);
        x.ewe(0, 0, 1);
        x.show(0, 1);
        x.show(1, 0);
        x.show(7, 1);
        Due.fill(x, 2, 0, 8);
        x.dog(55);
        x.turn(1);
        x.wind(1);
        x.evening(5);
        x.feed(32);
        x.feed(-1);
        DUE.is("48: back", x.back(), 1);
        for (int what = 0; what < was.length; what++) {
            DUE.is("48: status(" + what + ")", x.status(what), was[what]);
        }
        DUE.is("48: SEED", x.status(10), 99);
        DUE.is("48: its WALL", x.hasWall(22), 1);
        DUE.is("48: none else", x.hasWall(25), 0);
        DUE.is("48: its EWE", x.eweOf(0, 2), cell);
        DUE.is("48: EWE 0 in a SHELF", x.holds(1), 10);
        DUE.is("48: it says its a", x.says(1, 0), 4);
        DUE.is("48: EWE 1 in none", x.holds(0), -1);
        DUE.is("48: EWE 1 in none", x.holds(7), -1);
        DUE.is("48: a ROW", x.element(2, 0), 8);
        DUE.is("48: THE TAPE", x.status(9), 1);
        DUE.is("48: REFUSALS", x.status(12) * 10 + x.status(15), 11);
        x.turn(1);
        x.ewe(0, 0, 1);
        DUE.is("48: back once more", x.back(), 1);
        DUE.is("48: TURNS once more", x.status(5), was[5]);
        DUE.is("48: EWES once more", x.status(0), 1);
        x.ewe(0, 0, 1);
        DUE.is("47: image anew", x.image(), 1);
        x.back();
        DUE.is("47: EWES as kept anew", x.status(0), 2);
    }

    private static void status() {
        TwoWhistlesAndFiveEwes x = fresh();
        x.side(7);
        x.pen(44);
        x.wall(1, true);
        x.wall(2, true);
        x.ewe(0, 0, 44);
        x.ewe(0, 0, 44);
        x.ewe(0, 0, 3);
        x.turn(4);
        x.turn(2);
        x.wind(9);
        x.feed(1);
        x.seed(77);
        x.row(0, 0, 0);
        x.show(7, 2);
        x.says(0, 0);
        x.says(1, 0);
        x.says(1, 0);
        x.pen(44);
        x.turn(2);
        x.turn(4);
        x.ewe(0, 0, 3);
        x.ewe(0, 0, 3);
        x.ewe(0, 0, 3);
        x.ewe(0, 0, 3);
        x.side(0);
        long[] due = {5, 7, 44, 66, 9, 2, 2, 2, 2, 1, 77, 2, 1, 1, 2, 3, 2};
        for (int what = 0; what < due.length; what++) {
            DUE.is("49: status(" + what + ")", x.status(what), due[what]);
        }
        for (int what : new int[] {-1, 17, Integer.MAX_VALUE, Integer.MIN_VALUE}) {
            DUE.is("49: status(" + what + ")", x.status(what), -1);
        }
        DUE.is("49: NONE isn't refused", x.status(12), 1);
    }

    public static void main(String[] args) {
        done();
        evening();
        windInTheEvening();
        seed();
        images();
        status();
        DUE.end();
    }
}
