import java.util.Random;

/** Drawn runs of calls on the class and on PlainClass side by side; the same draws every time. */
public final class AgainstPlainTest {
    private static final int RUNS = 1500;
    private static final int CALLS = 500;
    private static final int DEAREST_PER_RUN = 2;

    private final Random random;
    private final Due due;
    private final TwoWhistlesAndFiveEwes x = new TwoWhistlesAndFiveEwes();
    private final PlainClass plain = new PlainClass();
    private final String run;
    private int calls = 0;
    private int dearest = 0;

    private AgainstPlainTest(int run, Due due) {
        this.random = new Random(run);
        this.run = "run " + run + " ";
        this.due = due;
    }

    private interface Call {
        long answer();
    }

    private void same(String call, long got, Call due) {
        long want;
        try {
            want = due.answer();
        } catch (PlainClass.Refused r) {
            plain.refused[-2 - r.number]++;
            want = r.number;
        }
        calls++;
        this.due.is(run + call, got, want);
    }

    /** Mostly 0 to n less 1, now and then beyond. */
    private int upTo(int n) {
        int d = random.nextInt(40);
        return d == 0 ? -1 : d == 1 ? n : d == 2 ? random.nextInt() : random.nextInt(n);
    }

    private int anyCell() {
        int side = plain.w.side;
        return random.nextInt(30) == 0 ? upTo(100) : random.nextInt(side) * 10 + random.nextInt(side);
    }

    /** A CELL near THE PEN, so that EWES come IN now and then. */
    private int nearPen() {
        PlainClass.P p = plain.w.pen;
        for (int i = 0; i < 4; i++) {
            PlainClass.P q = p.beside()[random.nextInt(4)];
            p = plain.w.on(q) && random.nextBoolean() ? q : p;
        }
        return p.number();
    }

    private int eweCell() {
        return random.nextInt(3) == 0 ? anyCell() : nearPen();
    }

    private int anyEwe() {
        return upTo(Math.max(1, plain.w.ewes.size()));
    }

    private int shelf() {
        return random.nextInt(30) == 0 ? upTo(8) : random.nextInt(4);
    }

    private void hill() {
        StringBuilder text = new StringBuilder();
        int statements = 1 + random.nextInt(5);
        for (int i = 0; i < statements; i++) {
            text.append(i > 0 ? ";" : "").append(blanks()).append(statement()).append(blanks());
        }
        if (random.nextInt(3) == 0 && text.length() > 0) {
            int at = random.nextInt(text.length());
            switch (random.nextInt(3)) {
                case 0 -> text.deleteCharAt(at);
                case 1 -> text.insert(at, "; 019azA:/`{".charAt(random.nextInt(12)));
                default -> text.setLength(at);
            }
        }
        for (int i = 0; i < text.length() && calls < CALLS; i++) {
            int letter = text.charAt(i);
            same("feed(" + letter + ")", x.feed(letter), () -> plain.feed(letter));
        }
        same("hill() " + text, x.hill(), plain::hill);
    }

    private String blanks() {
        return " ".repeat(random.nextInt(8) == 0 ? 1 + random.nextInt(2) : 0);
    }

    private String statement() {
        String gap = random.nextInt(10) == 0 ? "" : " ";
        return switch (random.nextInt(9)) {
            case 0 -> "side" + gap + (5 + random.nextInt(4));
            case 1, 2 -> "wall" + gap + anyCell();
            case 3 -> "gap" + gap + anyCell();
            case 4 -> "pen" + gap + anyCell();
            case 5 -> "dog" + gap + anyCell();
            case 6 -> "wind" + gap + upTo(13);
            default -> "ewe" + gap + upTo(6) + " " + upTo(10) + " " + eweCell();
        };
    }

    private void rowOfCommands() {
        int s = random.nextInt(4);
        int sort = random.nextInt(5);
        int n = random.nextInt(8);
        same("row", x.row(s, sort, n), () -> plain.row(s, sort, n));
        PlainClass.World t = plain.w.twin();
        for (int k = 0; k < n; k++) {
            int i = k;
            int c = random.nextInt(5);
            for (int tries = 0; tries < 5 && !t.can(c); tries++) {
                c = (c + 1) % 5;
            }
            long v = random.nextInt(40) == 0 ? random.nextLong() : c;
            t.turn(c);
            same("set(" + s + ", " + i + ", " + v + ")", x.set(s, i, v), () -> plain.set(s, i, v));
        }
    }

    /** Two ROWS that tell how a EWE would go by some KIND, mostly. */
    private void rowsOfCells() {
        int n = random.nextInt(5);
        same("row", x.row(4, 0, n), () -> plain.row(4, 0, n));
        same("row", x.row(5, 3, n), () -> plain.row(5, 3, n));
        int ewe = anyEwe();
        int kind = random.nextInt(6);
        PlainClass.World v = plain.w.twin();
        for (int k = 0; k < n; k++) {
            int i = k;
            int dog = anyCell();
            long to = random.nextInt(25) == 0 ? random.nextLong() : anyCell();
            if (ewe >= 0 && ewe < v.ewes.size() && random.nextInt(20) != 0) {
                v.dog = PlainClass.P.of(dog);
                v.ewes.get(ewe).at = v.goal(v.ewes.get(ewe), kind);
                to = v.ewes.get(ewe).at.number();
            }
            long own = to;
            same("set", x.set(4, i, dog), () -> plain.set(4, i, dog));
            same("set", x.set(5, i, own), () -> plain.set(5, i, own));
        }
        same("kinds(4, 5, " + n + ", " + ewe + ")", x.kinds(4, 5, n, ewe), () -> plain.kinds(4, 5, n, ewe));
    }

    private void shelves() {
        int s = shelf();
        int t = shelf();
        int i = upTo(8);
        int j = upTo(8);
        int n = upTo(6);
        switch (random.nextInt(9)) {
            case 0 -> same("row(" + s + ")", x.row(s, i, n), () -> plain.row(s, i, n));
            case 1 -> same("element", x.element(s, i), () -> plain.element(s, i));
            case 2 -> same("holds", x.holds(s), () -> plain.holds(s));
            case 3, 4 -> {
                int ewe = random.nextInt(6) == 0 ? -1 : anyEwe();
                same("show", x.show(s, ewe), () -> plain.show(s, ewe));
                same("says(" + s + ", " + i + ")", x.says(s, i), () -> plain.says(s, i));
            }
            case 5 -> same("says(" + s + ", " + i + ")", x.says(s, i), () -> plain.says(s, i));
            case 6 -> {
                long v = random.nextLong() >> random.nextInt(64);
                same("set", x.set(s, i, v), () -> plain.set(s, i, v));
            }
            default -> same("copy(" + s + ", " + t + ", " + i + ", " + j + ", " + n + ")", x.copy(s, t, i, j, n),
                () -> plain.copy(s, t, i, j, n));
        }
    }

    private void build() {
        int c = anyCell();
        int v = upTo(13);
        switch (random.nextInt(9)) {
            case 0 -> {
                int n = random.nextInt(15) == 0 ? 7 : upTo(7);
                same("side(" + n + ")", x.side(n), () -> plain.side(n));
            }
            case 1 -> {
                boolean is = random.nextInt(3) != 0;
                same("wall(" + c + ", " + is + ")", x.wall(c, is), () -> plain.wall(c, is));
            }
            case 2 -> same("pen(" + c + ")", x.pen(c), () -> plain.pen(c));
            case 3 -> same("dog(" + c + ")", x.dog(c), () -> plain.dog(c));
            case 4, 5 -> {
                int kind = upTo(6);
                int a = upTo(10);
                int at = eweCell();
                same("ewe(" + kind + ", " + a + ", " + at + ")", x.ewe(kind, a, at), () -> plain.ewe(kind, a, at));
            }
            case 6, 7 -> {
                int e = anyEwe();
                int to = eweCell();
                same("move(" + e + ", " + to + ")", x.move(e, to), () -> plain.move(e, to));
            }
            default -> same("wind(" + v + ")", x.wind(v), () -> plain.wind(v));
        }
    }

    private void look() {
        int c = anyCell();
        int e = anyEwe();
        int v = upTo(17);
        int i = upTo(6);
        switch (random.nextInt(20)) {
            case 0 -> same("eweOf", x.eweOf(e, i), () -> plain.eweOf(e, i));
            case 1 -> same("hasWall", x.hasWall(c), () -> plain.hasWall(c));
            case 2 -> same("shy(" + e + ")", x.shy(e), () -> plain.shy(e));
            case 3 -> same("bare", x.bare(), plain::bare);
            case 4, 5, 6 -> {
                int what = upTo(4);
                same("ewes(" + what + ")", x.ewes(what), () -> plain.ewes(what));
            }
            case 7 -> same("path(" + c + ")", x.path(c), () -> plain.path(c));
            case 8 -> same("reach(" + v + ")", x.reach(v), () -> plain.reach(v));
            case 9 -> same("ways(" + i + ")", x.ways(i), () -> plain.ways(i));
            case 10 -> same("open(" + c + ")", x.open(c), () -> plain.open(c));
            case 11, 12 -> {
                int what = upTo(2);
                same("still(" + what + ")", x.still(what), () -> plain.still(what));
            }
            case 13 -> same("held", x.held(), plain::held);
            case 14 -> same("grazing", x.grazing(), plain::grazing);
            case 15 -> same("last", x.last(), plain::last);
            case 16 -> same("near", x.near(e, v), () -> plain.near(e, v));
            case 17 -> same("steps", x.steps(), plain::steps);
            case 18 -> same("best", x.best(), plain::best);
            default -> same("stand", x.stand(), plain::stand);
        }
    }

    private void searchOn() {
        int m = random.nextInt(6) == 0 ? upTo(7) : random.nextInt(5);
        if (m == 5 || m == 6) {
            dearest++;
            m = dearest > DEAREST_PER_RUN ? 3 : m;
        }
        int by = m;
        int at = random.nextInt(20) == 0 ? upTo(7) : random.nextInt(4) - 1;
        if (random.nextBoolean()) {
            same("fewest(" + by + ", " + at + ")", x.fewest(by, at), () -> plain.fewest(by, at));
        } else {
            same("most(" + by + ", " + at + ")", x.most(by, at), () -> plain.most(by, at));
        }
    }

    private void told() {
        int s = shelf();
        int n = random.nextInt(6);
        int upTo = upTo(8);
        int l = upTo(4);
        int what = random.nextInt(2) == 0 ? upTo(15) : random.nextInt(3);
        switch (random.nextInt(5)) {
            case 0 -> same("late(" + s + ", " + n + ", " + l + ")", x.late(s, n, l), () -> plain.late(s, n, l));
            case 1 -> same("odds(" + s + ", " + upTo + ")", x.odds(s, upTo), () -> plain.odds(s, upTo));
            case 2 -> same("judge(" + s + ", " + upTo + ")", x.judge(s, upTo), () -> plain.judge(s, upTo));
            case 3 -> same("done(" + s + ", " + n + ")", x.done(s, n), () -> plain.done(s, n));
            default -> same("behind(" + s + ", " + n + ", " + what + ")", x.behind(s, n, what), () -> plain.behind(s, n, what));
        }
    }

    private void truth() {
        int v = upTo(5);
        switch (random.nextInt(9)) {
            case 0 -> {
                int n = random.nextInt(3) == 0 ? upTo(61) : 1 + random.nextInt(4);
                same("evening(" + n + ")", x.evening(n), () -> plain.evening(n));
            }
            case 1 -> {
                int seed = random.nextInt();
                same("seed", x.seed(seed), () -> plain.seed(seed));
            }
            case 2 -> same("image", x.image(), plain::image);
            case 3 -> same("back", x.back(), plain::back);
            default -> same("turn(" + v + ")", x.turn(v), () -> plain.turn(v));
        }
    }

    private void statusOn() {
        int what = random.nextInt(10) == 0 ? upTo(17) : random.nextInt(17);
        same("status(" + what + ")", x.status(what), () -> plain.status(what));
    }

    private void step() {
        int d = random.nextInt(100);
        if (d < 2) {
            hill();
        } else if (d < 8) {
            rowOfCommands();
        } else if (d < 12) {
            rowsOfCells();
        } else if (d < 24) {
            shelves();
        } else if (d < 40) {
            build();
        } else if (d < 60) {
            look();
        } else if (d < 68) {
            searchOn();
        } else if (d < 78) {
            told();
        } else if (d < 90) {
            truth();
        } else if (d < 91) {
            same("wipe", x.wipe(), plain::wipe);
        } else {
            statusOn();
        }
    }

    /** Half of the runs begin on a hill with a good deal on it. */
    private void fillHill() {
        if (random.nextInt(3) == 0) {
            same("side(7)", x.side(7), () -> plain.side(7));
        }
        int pen = anyCell();
        int dog = anyCell();
        same("pen(" + pen + ")", x.pen(pen), () -> plain.pen(pen));
        same("dog(" + dog + ")", x.dog(dog), () -> plain.dog(dog));
        for (int i = random.nextInt(12); i > 0; i--) {
            int c = anyCell();
            same("wall(" + c + ", true)", x.wall(c, true), () -> plain.wall(c, true));
        }
        for (int i = random.nextInt(6); i > 0; i--) {
            int kind = random.nextInt(6);
            int a = random.nextInt(10);
            int c = eweCell();
            same("ewe(" + kind + ", " + a + ", " + c + ")", x.ewe(kind, a, c), () -> plain.ewe(kind, a, c));
        }
    }

    private boolean go() {
        if (random.nextBoolean()) {
            fillHill();
        }
        while (calls < CALLS - 80 && due.isRight()) {
            step();
        }
        for (int what = -1; what <= 17; what++) {
            int w = what;
            same("status(" + what + ")", x.status(what), () -> plain.status(w));
        }
        for (int e = 0; e < plain.w.ewes.size(); e++) {
            int ewe = e;
            same("eweOf(" + e + ", 2)", x.eweOf(e, 2), () -> plain.eweOf(ewe, 2));
        }
        return due.isRight();
    }

    public static void main(String[] args) {
        Due due = new Due("AgainstPlainTest");
        int runs = args.length > 0 ? Integer.parseInt(args[0]) : RUNS;
        for (int run = 0; run < runs; run++) {
            if (!new AgainstPlainTest(run, due).go()) {
                break;
            }
        }
        due.end();
    }
}
