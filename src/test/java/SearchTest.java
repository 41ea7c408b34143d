import java.util.Random;

/** Promises 21, 22 and 27: the searches on drawn hills against those of PlainClass, which try every ROW to its end. */
public final class SearchTest {
    private static final int HILLS = 1500;

    private static void build(TwoWhistlesAndFiveEwes x, PlainClass plain, Random random) {
        int side = 6 + random.nextInt(2);
        x.side(side);
        plain.side(side);
        int pen = random.nextInt(side) * 10 + random.nextInt(side);
        if (x.pen(pen) >= 0) {
            plain.pen(pen);
        }
        for (int i = random.nextInt(10); i > 0; i--) {
            int cell = random.nextInt(side) * 10 + random.nextInt(side);
            if (x.wall(cell, true) == 0) {
                plain.wall(cell, true);
            }
        }
        int dog = random.nextInt(side) * 10 + random.nextInt(side);
        if (x.dog(dog) >= 0) {
            plain.dog(dog);
        }
        // few EWES near THE PEN, or no row would bring all in
        for (int i = 1 + random.nextInt(random.nextInt(5) + 1); i > 0; i--) {
            int cell = random.nextInt(side) * 10 + random.nextInt(side);
            int kind = random.nextInt(6);
            int a = random.nextInt(10);
            int far = Math.abs(cell / 10 - pen / 10) + Math.abs(cell % 10 - pen % 10);
            if (far < 6 && x.ewe(kind, a, cell) >= 0) {
                plain.ewe(kind, a, cell);
            }
        }
        int wind = random.nextInt(13);
        x.wind(wind);
        plain.wind(wind);
    }

    private static long answer(int[] row, int all, int i) {
        return row == null || row[0] != all ? i < 0 ? -1 : -5 : i < 0 ? row.length - 1 : i < row.length - 1 ? row[1 + i] : -5;
    }

    private static void fewest(Due due, String hill, TwoWhistlesAndFiveEwes x, PlainClass plain) {
        int all = plain.w.ewes.size();
        int[] row = null;
        for (int m = 0; m <= 6; m++) {
            row = row == null || row[0] != all ? PlainClass.mostBy(plain.w, m) : row;
            for (int i = -1; i <= 6; i++) {
                due.is(hill + "fewest(" + m + ", " + i + ")", x.fewest(m, i), answer(row, all, i));
            }
        }
    }

    private static void most(Due due, String hill, TwoWhistlesAndFiveEwes x, PlainClass plain) {
        for (int m = 0; m <= 5; m++) {
            int[] row = PlainClass.mostBy(plain.w, m);
            for (int i = -1; i < m; i++) {
                due.is(hill + "most(" + m + ", " + i + ")", x.most(m, i), row[i + 1]);
            }
        }
    }

    private static void odds(Due due, String hill, TwoWhistlesAndFiveEwes x, PlainClass plain) {
        int length = x.fewest(6, -1);
        int n = Math.max(length, 0);
        x.row(0, 3, 6);
        plain.row(0, 3, 6);
        for (int i = 0; i < n; i++) {
            int command = x.fewest(6, i);
            x.set(0, i, command);
            plain.set(0, i, command);
        }
        for (int k = n; k <= 6; k++) {
            due.is(hill + "odds(0, " + k + ")", x.odds(0, k), plain.odds(0, k));
        }
        x.turn(2);
        plain.w.turn(plain.w.can(2) ? 2 : 0);
        due.is(hill + "behind a turn odds(0, " + n + ")", x.status(8) == 2 ? x.odds(0, n) : -1,
            plain.w.did == 2 ? plain.odds(0, n) : -1);
    }

    public static void main(String[] args) {
        Due due = new Due("SearchTest");
        Random random = new Random(49);
        int[] lengths = new int[8];
        for (int k = 0; k < HILLS && due.isRight(); k++) {
            TwoWhistlesAndFiveEwes x = new TwoWhistlesAndFiveEwes();
            PlainClass plain = new PlainClass();
            build(x, plain, random);
            String hill = "hill " + k + " ";
            fewest(due, hill, x, plain);
            most(due, hill, x, plain);
            lengths[1 + x.fewest(6, -1)]++;
            odds(due, hill, x, plain);
        }
        // else the hills were too dull to tell anything
        for (int length = 0; length < lengths.length; length++) {
            due.is("hills with fewest " + (length - 1) + ": some", lengths[length] > 0 ? 1 : 0, 1);
        }
        due.end();
    }
}
