/** The edges of promises 44 to 49, and that what part 3 of the terms asks changes nothing. */
public final class TruthEdgesTest {
    private static final Due DUE = new Due("TruthEdgesTest");

    /** 44: "how many are IN"; "TURNS is 1 more"; what THE DOG did latest. */
    private static void turns() {
        TwoWhistlesAndFiveEwes x = Starts.large(0, 33);
        DUE.is("44: 0 TURNS at first", x.status(5), 0);
        DUE.is("44: did 0 at first", x.status(8), 0);
        for (int e = 0; e <= 5; e++) {
            for (int command = 1; command <= 4; command++) {
                DUE.is("44: " + e + " are IN", x.turn(command), e);
                DUE.is("44: did", x.status(8), command);
            }
            DUE.is("44: refused", x.turn(5), -2);
            DUE.is("44: that was no TURN", x.status(5), 4 * (e + 1));
            DUE.is("44: nor done", x.status(8), 4);
            DUE.is("13: one more", x.ewe(e % 6, 9, 0), e < 5 ? e : -6);
        }
    }

    /** A draw as the terms tell it, in longs, so that nothing wraps unseen. */
    private static long next(long seed) {
        return (seed * 1103515245L + 12345L) & 0xFFFFFFFFL;
    }

    private static int asInt(long seed) {
        return seed > Integer.MAX_VALUE ? (int) (seed - 4294967296L) : (int) seed;
    }

    /** 45: draws of each SEED, the least and the largest, too; heard in just as many ways as WIND leaves. */
    private static void draws() {
        int[] seeds = {0, 1, -1, 2, 4, 12345, -12345, 1103527590, 65535, 65536, -65536, Integer.MIN_VALUE, Integer.MAX_VALUE,
            Integer.MIN_VALUE + 1, 1 << 30, 99, 777777777};
        int[] ways = {0, -10, 10, -1, 1};
        for (int first : seeds) {
            for (int wind = 0; wind <= 12; wind++) {
                TwoWhistlesAndFiveEwes x = Starts.large(0, 33);
                x.wind(wind);
                x.seed(first);
                long seed = first & 0xFFFFFFFFL;
                int dog = 33;
                int did = 0;
                for (int t = 1; t <= 20; t++) {
                    seed = next(seed);
                    int whistled = (int) (seed / 65536 % 5);
                    seed = next(seed);
                    did = seed / 65536 % 12 < wind ? did : whistled;
                    int to = dog + ways[did];
                    dog = to > 0 && to / 10 < 7 && to % 10 < 7 ? to : dog;
                    String why = "45: SEED " + first + ", WIND " + wind + ", TURN " + t;
                    DUE.is(why, x.evening(1), 0);
                    DUE.is(why + ", THE DOG", x.status(3), dog);
                    DUE.is(why + ", what it did", x.status(8), did);
                    DUE.is(why + ", SEED", x.status(10), asInt(seed));
                    DUE.is(why + ", TURNS", x.status(5), t);
                }
            }
        }
    }

    /** 45: "n TURNS (1 to 60)", one by one or at once. */
    private static void eveningsOfN() {
        int[] lengths = {1, 2, 59, 60};
        for (int n : lengths) {
            TwoWhistlesAndFiveEwes x = Starts.large(0, 33);
            TwoWhistlesAndFiveEwes y = Starts.large(0, 33);
            x.ewe(0, 0, 11);
            y.ewe(0, 0, 11);
            x.ewe(5, 9, 44);
            y.ewe(5, 9, 44);
            int in = 0;
            for (int t = 0; t < n; t++) {
                in += y.evening(1);
            }
            DUE.is("45: evening(" + n + ")", x.evening(n), in);
            DUE.is("45: TURNS", x.status(5), n);
            Twins.areAlike(DUE, "45: at once as one by one, " + n, x, y, Twins.NO_REFUSAL);
        }
        for (int n : new int[] {0, -1, 61, Integer.MAX_VALUE, Integer.MIN_VALUE}) {
            DUE.is("45: evening(" + n + ")", Starts.large(0, 33).evening(n), -2);
        }
    }

    /** 45: "how many EWES come IN": not those that are IN; WIND 12: nothing is heard. */
    private static void comeIn() {
        for (int there = 0; there <= 4; there++) {
            TwoWhistlesAndFiveEwes x = Starts.large(0, 14);
            for (int e = 0; e < there; e++) {
                x.ewe(e, 0, 0);
            }
            x.ewe(0, 0, 1);
            x.wind(12);
            DUE.is("45: THE DOG stays as at first", x.evening(60), 0);
            x.turn(4);
            DUE.is("45: goes on as it did, away", x.evening(1), 0);
            x.dog(15);
            x.turn(3);
            DUE.is("45: goes on as it did", x.evening(1), 1);
            DUE.is("45: with those that are IN", x.status(6), there + 1);
            DUE.is("45: no more come", x.evening(60), 0);
        }
    }

    /** 45, 27: "what it can't do it doesn't, and it counts as done all the same". */
    private static void countsAsDone() {
        // from SEED 1 a COLUMN less is whistled twice; the second draws are 6 and 3
        for (int wind = 0; wind <= 6; wind++) {
            TwoWhistlesAndFiveEwes x = Starts.large(0, 30);
            x.turn(1);
            x.wind(wind);
            x.evening(1);
            DUE.is("45: heard, WIND " + wind, x.status(8), 3);
            DUE.is("45: it can't, WIND " + wind, x.status(3), 20);
            x.evening(1);
            DUE.is("45: heard or not, as it did, WIND " + wind, x.status(3), 20);
        }
        TwoWhistlesAndFiveEwes x = Starts.large(0, 30);
        x.turn(1);
        x.wind(7);
        x.evening(1);
        DUE.is("45: not heard: as it was told", x.status(3), 10);
        DUE.is("45: as it was told", x.status(8), 1);
        x.evening(1);
        DUE.is("45: THE PEN is there", x.status(3), 10);
        DUE.is("45: it counts", x.status(8), 1);
    }

    /** 46: "SEED becomes v: the one ahead", whatever v is. */
    private static void seeds() {
        TwoWhistlesAndFiveEwes x = Starts.large(0, 33);
        int ahead = 1;
        for (int v : new int[] {0, -1, Integer.MIN_VALUE, Integer.MAX_VALUE, 1, -2, -6}) {
            DUE.is("46: seed(" + v + ")", x.seed(v), ahead);
            DUE.is("49: SEED", x.status(10), v);
            ahead = v;
        }
        DUE.is("46: never refused", x.status(12), 0);
    }

    private static TwoWhistlesAndFiveEwes kept() {
        TwoWhistlesAndFiveEwes x = Starts.rich();
        DUE.is("47: image", x.image(), 1);
        return x;
    }

    /** 47 and 48: "All is again as it was kept", each thing by itself and all together. */
    private static void backToAll() {
        Twins.Call[] changes = {x -> x.done(0, 6), x -> x.turn(4), x -> x.evening(7), x -> x.dog(6), x -> x.pen(1), x -> x.wall(0, true),
            x -> x.wall(22, false), x -> x.ewe(1, 1, 5), x -> x.move(2, 3), x -> x.move(0, 1), x -> x.wind(12), x -> x.seed(5)};
        for (int i = 0; i < changes.length; i++) {
            TwoWhistlesAndFiveEwes x = kept();
            DUE.is("48: change " + i + " is done", changes[i].on(x) >= 0 ? 1 : 0, 1);
            DUE.is("48: back", x.back(), 1);
            Twins.areAlike(DUE, "48: behind change " + i, x, kept(), Twins.NO_REFUSAL);
        }
        TwoWhistlesAndFiveEwes x = kept();
        for (Twins.Call change : changes) {
            change.on(x);
        }
        TwoWhistlesAndFiveEwes y = kept();
        x.back();
        Twins.areAlike(DUE, "48: behind all changes", x, y, Twins.NO_REFUSAL);
    }

    /** 48: a smaller SIDE and fewer EWES come back, too, and as often as asked. */
    private static void backAgain() {
        TwoWhistlesAndFiveEwes x = new TwoWhistlesAndFiveEwes();
        DUE.is("48: nothing was kept", x.back(), -5);
        DUE.is("47: a new object", x.image(), 1);
        for (int i = 1; i <= 3; i++) {
            x.side(7);
            x.dog(66);
            x.ewe(0, 0, 65);
            x.wall(6, true);
            x.turn(1);
            DUE.is("48: back, " + i, x.back(), 1);
            DUE.is("48: SIDE 6 again", x.status(1), 6);
            DUE.is("48: 66 is no CELL again", x.hasWall(66), -2);
            DUE.is("48: THE DOG", x.status(3), 55);
            DUE.is("48: no EWES", x.status(0), 0);
            DUE.is("48: no EWE 0", x.eweOf(0, 0), -2);
            DUE.is("48: no WALLS", x.status(7), 0);
            DUE.is("48: no TURNS", x.status(5), 0);
            DUE.is("48: what it did", x.status(8), 0);
        }
        x.side(7);
        DUE.is("48: no WALL is left where there was no CELL", x.hasWall(6), 0);
        DUE.is("47: anew", x.image(), 1);
        x.wind(9);
        x.back();
        DUE.is("48: as kept anew", x.status(1) * 100 + x.status(4), 702);
    }

    /** 47: "All is kept, but THE TAPE, SHELVES and REFUSALS". */
    private static void notKept() {
        TwoWhistlesAndFiveEwes x = new TwoWhistlesAndFiveEwes();
        x.ewe(0, 0, 1);
        Due.feedAll(x, "gap");
        Due.fill(x, 0, 2, 5);
        x.row(1, 2, 1);
        x.turn(9);
        x.image();
        Due.feedAll(x, " 1");
        x.set(0, 0, 6);
        x.show(1, 0);
        x.row(2, 0, 3);
        x.turn(9);
        x.set(7, 0, 0);
        x.back();
        DUE.is("47: THE TAPE", x.status(9), 5);
        DUE.is("47: what is on it", x.hill(), 1);
        DUE.is("47: an element", x.element(0, 0), 6);
        DUE.is("47: a EWE in a SHELF", x.holds(1), 10);
        DUE.is("47: a ROW in a SHELF", x.holds(2), 0);
        DUE.is("47: SHELVES that hold something", x.status(11), 3);
        DUE.is("47: BAD", x.status(12), 2);
        DUE.is("47: NOTHING", x.status(14), 1);
    }

    /** 48: "(SHELVES with EWES hold those of the same numbers, or NOTHING)". */
    private static void shelvesBehindBack() {
        for (int were = 0; were < 5; were++) {
            TwoWhistlesAndFiveEwes x = new TwoWhistlesAndFiveEwes();
            for (int e = 0; e < 5; e++) {
                if (e == were) {
                    x.image();
                }
                x.ewe(0, 0, 1);
            }
            for (int s = 0; s < 8; s++) {
                x.show(s, 4);
            }
            x.back();
            for (int s = 0; s < 8; s++) {
                DUE.is("48: EWE 4 of " + were + " in SHELF " + s, x.holds(s), -1);
            }
        }
        for (int were = 0; were <= 5; were++) {
            TwoWhistlesAndFiveEwes x = new TwoWhistlesAndFiveEwes();
            for (int e = 0; e < 5; e++) {
                if (e == were) {
                    x.image();
                }
                x.ewe(e, 9 - e, 1 + e);
            }
            if (were == 5) {
                x.image();
            }
            for (int e = 0; e < 5; e++) {
                x.show(7 - e, e);
            }
            x.row(0, 4, 2);
            x.back();
            for (int e = 0; e < 5; e++) {
                boolean is = e < were;
                DUE.is("48: EWE " + e + " of " + were + " in its SHELF", x.holds(7 - e), is ? 10 + e : -1);
                DUE.is("48: it says its a", x.says(7 - e, 0), is ? 9 - e : -4);
            }
            DUE.is("48: the ROW", x.holds(0), 4);
            DUE.is("49: SHELVES that hold something", x.status(11), were + 1);
            x.ewe(5, 9, 9);
            x.ewe(5, 2, 1);
            DUE.is("48: a new EWE isn't in the old one's SHELF", x.status(11), were + 1);
        }
    }

    /** 49: each count from none to some; "NONE another what". */
    private static void statuses() {
        TwoWhistlesAndFiveEwes x = new TwoWhistlesAndFiveEwes();
        for (int what : new int[] {-1, -2, 17, 18, 100, Integer.MAX_VALUE, Integer.MIN_VALUE}) {
            DUE.is("49: status(" + what + ")", x.status(what), -1);
        }
        x.wall(22, true);
        for (int i = 1; i <= 5; i++) {
            x.row(0, 0, 41);
            DUE.is("49: BAD", x.status(12), i);
            x.row(0, 0, 1);
            x.says(0, 0);
            DUE.is("49: OTHER", x.status(13), i);
            x.set(1, 0, 0);
            DUE.is("49: NOTHING", x.status(14), i);
            x.dog(22);
            DUE.is("49: STUCK", x.status(15), i);
            x.ewe(0, 0, 0);
            DUE.is("49: EWES", x.status(0), i);
            DUE.is("49: how many are IN", x.status(6), i);
        }
        for (int i = 1; i <= 5; i++) {
            x.ewe(0, 0, 0);
            DUE.is("49: FULL", x.status(16), i);
        }
        for (int s = 0; s < 8; s++) {
            x.show(s, 0);
            DUE.is("49: SHELVES that hold something", x.status(11), s + 1);
        }
        for (int s = 0; s < 8; s++) {
            x.show(s, -1);
            DUE.is("49: SHELVES that hold something", x.status(11), 7 - s);
        }
    }

    private static void changesNothing(String name, Twins.Call call) {
        Twins.changesNothing(DUE, name, Starts::rich, call);
        Twins.changesNothing(DUE, name + ", full", Starts::full, call);
        Twins.changesNothing(DUE, name + ", a EWE IN", Starts::penned, call);
    }

    /** "3. WHAT COMES OF IT (nothing is changed)". */
    private static void nothingIsChanged() {
        for (int m = 0; m <= 6; m++) {
            int by = m;
            changesNothing("21: fewest", x -> x.fewest(by, -1));
            changesNothing("21: fewest", x -> x.fewest(by, 0));
            changesNothing("22: most", x -> x.most(by, -1));
            changesNothing("25: late", x -> x.late(0, by, by % 4));
            changesNothing("27: odds", x -> x.odds(0, by));
            changesNothing("30: reach", x -> x.reach(by));
            changesNothing("31: ways", x -> x.ways(by));
            changesNothing("37: near", x -> x.near(0, by));
            changesNothing("40: kinds", x -> x.kinds(0, 6, Math.min(by, 2), 0));
            changesNothing("41: judge", x -> x.judge(0, by));
        }
        for (int what : new int[] {0, 1, 2, 10, 11, 12}) {
            changesNothing("42: behind", x -> x.behind(0, 6, what));
            changesNothing("28: ewes", x -> x.ewes(what));
            changesNothing("33: still", x -> x.still(what));
            changesNothing("24: shy", x -> x.shy(what));
            changesNothing("19: eweOf", x -> x.eweOf(0, what));
        }
        changesNothing("23: stand", x -> x.stand());
        changesNothing("26: bare", x -> x.bare());
        changesNothing("29: path", x -> x.path(5));
        changesNothing("32: open", x -> x.open(5));
        changesNothing("34: held", x -> x.held());
        changesNothing("35: grazing", x -> x.grazing());
        changesNothing("36: last", x -> x.last());
        changesNothing("38: steps", x -> x.steps());
        changesNothing("39: best", x -> x.best());
        changesNothing("20: hasWall", x -> x.hasWall(22));
        changesNothing("8: says", x -> x.says(2, 5));
        changesNothing("6: holds", x -> x.holds(2));
        changesNothing("5: element", x -> x.element(0, 1));
        changesNothing("49: status", x -> x.status(6));
    }

    public static void main(String[] args) {
        turns();
        draws();
        eveningsOfN();
        comeIn();
        countsAsDone();
        seeds();
        backToAll();
        backAgain();
        notKept();
        shelvesBehindBack();
        statuses();
        nothingIsChanged();
        DUE.end();
    }
}
