import java.util.ArrayList;
import java.util.HashMap;
import java.util.List;
import java.util.Map;
import java.util.regex.Matcher;
import java.util.regex.Pattern;

/**
 * The document once more in its slowest form: everything is tried to the end on copies, nothing is cut short.
 * AgainstPlainTest holds the class against it. A refusal is thrown.
 */
final class PlainClass {
    static final class Refused extends RuntimeException {
        private static final long serialVersionUID = 1;
        final int number;

        Refused(int number) {
            super(null, null, false, false);
            this.number = number;
        }
    }

    static final int BAD = -2, OTHER = -3, NOTHING = -4, STUCK = -5, FULL = -6;

    /** A place by row and column. */
    record P(int r, int c) {
        static P of(long n) {
            return new P((int) (n / 10), (int) (n % 10));
        }

        int number() {
            return 10 * r + c;
        }

        int to(P o) {
            return Math.abs(r - o.r) + Math.abs(c - o.c);
        }

        P[] beside() {
            return new P[] {new P(r - 1, c), new P(r + 1, c), new P(r, c - 1), new P(r, c + 1)};
        }
    }

    static class E {
        int kind, a;
        P at;

        E(int kind, int a, P at) {
            this.kind = kind;
            this.a = a;
            this.at = at;
        }
    }

    static final class World {
        int side = 6, wind = 2, did, turns, seed = 1;
        P pen = new P(0, 0), dog = new P(5, 5);
        List<P> walls = new ArrayList<>();
        List<E> ewes = new ArrayList<>();

        World twin() {
            World w = new World();
            w.side = side;
            w.wind = wind;
            w.did = did;
            w.turns = turns;
            w.seed = seed;
            w.pen = pen;
            w.dog = dog;
            w.walls.addAll(walls);
            for (E e : ewes) {
                w.ewes.add(new E(e.kind, e.a, e.at));
            }
            return w;
        }

        boolean on(P p) {
            return p.r >= 0 && p.c >= 0 && p.r < side && p.c < side;
        }

        boolean free(P p) {
            return on(p) && !walls.contains(p);
        }

        boolean dogCan(P p) {
            return free(p) && !p.equals(pen);
        }

        boolean eweAt(P p) {
            return ewes.stream().anyMatch(e -> e.at.equals(p));
        }

        boolean penCan(P p) {
            return free(p) && !p.equals(dog) && !eweAt(p) && in() == 0;
        }

        boolean in(E e) {
            return e.at.equals(pen);
        }

        int in() {
            return (int) ewes.stream().filter(this::in).count();
        }

        P dogGoal(int command) {
            return command == 0 ? dog : dog.beside()[command - 1];
        }

        boolean can(int command) {
            return dogCan(dogGoal(command));
        }

        void turn(int command) {
            if (can(command)) {
                dog = dogGoal(command);
            }
            did = command;
            for (E e : ewes) {
                e.at = goal(e, e.kind);
            }
        }

        P goal(E e, int kind) {
            if (in(e)) {
                return e.at;
            }
            int d = e.at.to(dog);
            switch (kind) {
                case 0: return d <= 3 ? step(e, e.at, false) : e.at;
                case 1: return run(e, 2, 3);
                case 2: return d <= 1 ? e.at : d <= 3 ? step(e, e.at, false) : e.at;
                case 3: return run(e, 3, 5);
                case 4: return d <= 2 ? e.at : d <= 3 ? step(e, e.at, false) : e.at;
                default: return d <= e.a ? step(e, e.at, true) : e.at;
            }
        }

        P run(E e, int times, int fear) {
            P at = e.at;
            for (int t = 0; t < times; t++) {
                if (!at.equals(pen) && at.to(dog) <= fear) {
                    at = step(e, at, false);
                }
            }
            return at;
        }

        P step(E e, P at, boolean isLeader) {
            P mark = null;
            for (E other : ewes) {
                if (mark == null && other != e && other.kind == 5 && !in(other)) {
                    mark = other.at;
                }
            }
            if (isLeader) {
                mark = pen;
            }
            List<P> fit = new ArrayList<>();
            for (P p : at.beside()) {
                if (free(p) && p.to(dog) > at.to(dog)) {
                    fit.add(p);
                }
            }
            if (fit.isEmpty()) {
                return at;
            }
            P best = fit.get(0);
            for (P p : fit) {
                if (mark != null && p.to(mark) < best.to(mark)) {
                    best = p;
                }
            }
            return best;
        }

        int sum() {
            return ewes.stream().mapToInt(e -> e.at.to(pen)).sum();
        }

        int apart() {
            int most = 0;
            for (E e : ewes) {
                for (E f : ewes) {
                    if (e != f && !in(e) && !in(f)) {
                        most = Math.max(most, e.at.to(f.at));
                    }
                }
            }
            return most;
        }

        List<P> cells() {
            List<P> all = new ArrayList<>();
            for (int r = 0; r < side; r++) {
                for (int c = 0; c < side; c++) {
                    all.add(new P(r, c));
                }
            }
            return all;
        }

        World withDog(P p) {
            World w = twin();
            w.dog = p;
            return w;
        }

        int movedBits() {
            int bits = 0;
            for (int e = 0; e < ewes.size(); e++) {
                if (!goal(ewes.get(e), ewes.get(e).kind).equals(ewes.get(e).at)) {
                    bits |= 1 << e;
                }
            }
            return bits;
        }

        int draw(int n) {
            seed = (int) ((long) seed * 1103515245L + 12345L);
            return (seed >> 16 & 0xFFFF) % n;
        }
    }

    World w = new World();
    World imaged;
    StringBuilder tape = new StringBuilder();
    /** Null, a long[] behind its sort, or an E. */
    Object[] shelf = new Object[8];
    int[] sorts = new int[8];
    int[] refused = new int[5];

    static void bad(boolean is) {
        if (is) {
            throw new Refused(BAD);
        }
    }

    static void stuck(boolean is) {
        if (is) {
            throw new Refused(STUCK);
        }
    }

    P cell(long n) {
        bad(n < 0 || n > 99 || !w.on(P.of(n)));
        return P.of(n);
    }

    E eweAt(int e) {
        bad(e < 0 || e >= w.ewes.size());
        return w.ewes.get(e);
    }

    void within(long v, long least, long most) {
        bad(v < least || v > most);
    }

    long[] rowOf(int... ss) {
        for (int s : ss) {
            within(s, 0, 7);
        }
        for (int s : ss) {
            if (shelf[s] instanceof E) {
                throw new Refused(OTHER);
            }
        }
        for (int s : ss) {
            if (shelf[s] == null) {
                throw new Refused(NOTHING);
            }
        }
        return (long[]) shelf[ss[0]];
    }

    int[] commands(int s, int n) {
        long[] row = rowOf(s);
        bad(n > row.length);
        int[] told = new int[n];
        for (int i = 0; i < n; i++) {
            stuck(row[i] < 0 || row[i] > 4);
            told[i] = (int) row[i];
        }
        return told;
    }

    int wrong(long[] row, int n) {
        World t = w.twin();
        t.ewes.clear();
        for (int i = 0; i < n; i++) {
            if (row[i] < 0 || row[i] > 4 || !t.can((int) row[i])) {
                return i;
            }
            t.turn((int) row[i]);
        }
        return -1;
    }

    int[] doable(int s, int n) {
        long[] row = rowOf(s);
        bad(n > row.length);
        stuck(wrong(row, n) != -1);
        return commands(s, n);
    }

    int row(int s, int sort, int n) {
        within(s, 0, 7);
        within(sort, 0, 4);
        within(n, 0, 40);
        shelf[s] = new long[n];
        sorts[s] = sort;
        return 1;
    }

    int set(int s, int i, long v) {
        long[] row = rowOf(s);
        within(i, 0, row.length - 1);
        row[i] = switch (sorts[s]) {
            case 0 -> v << 56 >> 56;
            case 1 -> v << 48 >> 48;
            case 2 -> v << 32 >> 32;
            case 3 -> v;
            default -> v == 0 ? 0 : 1;
        };
        return 1;
    }

    int copy(int p, int q, int i, int j, int n) {
        within(p, 0, 7);
        within(q, 0, 7);
        if (shelf[p] != null && shelf[q] != null && sorts[p] != sorts[q]) {
            throw new Refused(OTHER);
        }
        rowOf(p, q);
        long[] from = ((long[]) shelf[p]).clone();
        long[] to = (long[]) shelf[q];
        bad(i < 0 || j < 0 || n < 0 || (long) i + n > from.length || (long) j + n > to.length);
        for (int k = 0; k < n; k++) {
            to[j + k] = from[i + k];
        }
        return n;
    }

    long element(int s, int i) {
        if (s < 0 || s > 7 || !(shelf[s] instanceof long[] row) || i < 0 || i >= row.length) {
            return 0;
        }
        return row[i];
    }

    int holds(int s) {
        if (s < 0 || s > 7 || shelf[s] == null) {
            return -1;
        }
        return shelf[s] instanceof E e ? 10 + w.ewes.indexOf(e) : sorts[s];
    }

    int show(int s, int ewe) {
        within(s, 0, 7);
        shelf[s] = ewe == -1 ? null : eweAt(ewe);
        sorts[s] = -1;
        return 1;
    }

    static final Map<Integer, List<Integer>> ABOVE = new HashMap<>(Map.of(0, List.of(0), 1, List.of(1, 0),
        2, List.of(2, 0), 3, List.of(3, 1, 0), 4, List.of(4, 2, 0), 5, List.of(5, 0)));

    int says(int s, int kind) {
        within(s, 0, 7);
        within(kind, 0, 5);
        if (shelf[s] == null) {
            throw new Refused(NOTHING);
        }
        if (!(shelf[s] instanceof E e) || !ABOVE.get(e.kind).contains(kind)) {
            throw new Refused(OTHER);
        }
        return kind == 0 ? e.a : w.goal(e, e.kind).number();
    }

    int side(int n) {
        within(n, w.side, 7);
        int was = w.side;
        w.side = n;
        return was;
    }

    int wall(int c, boolean is) {
        P p = cell(c);
        stuck(is && (p.equals(w.pen) || p.equals(w.dog) || w.eweAt(p)));
        boolean had = w.walls.remove(p);
        if (is) {
            w.walls.add(p);
        }
        return had ? 1 : 0;
    }

    int pen(int c) {
        P p = cell(c);
        stuck(!w.penCan(p));
        int was = w.pen.number();
        w.pen = p;
        return was;
    }

    int dog(int c) {
        P p = cell(c);
        stuck(!w.dogCan(p));
        int was = w.dog.number();
        w.dog = p;
        return was;
    }

    int ewe(int kind, int a, int c) {
        within(kind, 0, 5);
        within(a, 0, 9);
        P p = cell(c);
        stuck(!w.free(p));
        if (w.ewes.size() == 5) {
            throw new Refused(FULL);
        }
        w.ewes.add(new E(kind, a, p));
        return w.ewes.size() - 1;
    }

    int move(int e, int c) {
        E ewe = eweAt(e);
        P p = cell(c);
        stuck(!w.free(p));
        int was = ewe.at.number();
        ewe.at = p;
        return was;
    }

    int wind(int v) {
        within(v, 0, 12);
        int was = w.wind;
        w.wind = v;
        return was;
    }

    int feed(int letter) {
        within(letter, 0, 255);
        if (tape.length() == 250) {
            throw new Refused(FULL);
        }
        tape.append((char) letter);
        return tape.length();
    }

    int wipe() {
        int was = tape.length();
        tape.setLength(0);
        return was;
    }

    static final Pattern TOKEN = Pattern.compile(" *(?:([a-z]+)|([0-9]+)|(;)|$|(.))", Pattern.DOTALL);

    record Token(String text, int place, char sort) {
    }

    List<Token> tokens() {
        List<Token> all = new ArrayList<>();
        Matcher m = TOKEN.matcher(tape);
        int at = 0;
        while (at < tape.length() && m.find(at)) {
            for (int g = 1; g <= 4; g++) {
                if (m.group(g) != null) {
                    all.add(new Token(m.group(g), m.start(g), "wn;?".charAt(g - 1)));
                }
            }
            at = Math.max(at + 1, m.end());
        }
        all.add(new Token("", tape.length(), 'e'));
        return all;
    }

    static final class Fault extends Exception {
        private static final long serialVersionUID = 1;
        final int place;

        Fault(Token t) {
            place = t.place;
        }
    }

    static void need(boolean is, Token t) throws Fault {
        if (!is) {
            throw new Fault(t);
        }
    }

    static int number(Token t) throws Fault {
        need(t.sort == 'n' && t.text.length() < 3, t);
        return Integer.parseInt(t.text);
    }

    int readAll(World d) throws Fault {
        List<Token> ts = tokens();
        int at = 0;
        int statements = 0;
        while (true) {
            Token word = ts.get(at++);
            need(word.sort == 'w' && List.of("side", "wall", "gap", "pen", "dog", "ewe", "wind").contains(word.text), word);
            need(!word.text.equals("ewe") || d.ewes.size() < 5, word);
            int[] v = new int[word.text.equals("ewe") ? 3 : 1];
            for (int i = 0; i < v.length; i++) {
                v[i] = number(ts.get(at));
                P p = P.of(v[i]);
                need(switch (word.text) {
                    case "side" -> v[i] >= d.side && v[i] <= 7;
                    case "wall" -> d.on(p) && !p.equals(d.pen) && !p.equals(d.dog) && !d.eweAt(p);
                    case "gap" -> d.on(p);
                    case "pen" -> d.penCan(p);
                    case "dog" -> d.dogCan(p);
                    case "wind" -> v[i] <= 12;
                    default -> i == 0 ? v[i] <= 5 : i == 1 ? v[i] <= 9 : d.free(p);
                }, ts.get(at));
                at++;
            }
            P p = P.of(v[0]);
            switch (word.text) {
                case "side" -> d.side = v[0];
                case "wall" -> {
                    d.walls.remove(p);
                    d.walls.add(p);
                }
                case "gap" -> d.walls.remove(p);
                case "pen" -> d.pen = p;
                case "dog" -> d.dog = p;
                case "wind" -> d.wind = v[0];
                default -> d.ewes.add(new E(v[0], v[1], P.of(v[2])));
            }
            statements++;
            Token next = ts.get(at++);
            if (next.sort == 'e') {
                return statements;
            }
            need(next.sort == ';', next);
        }
    }

    void become(World other) {
        List<E> old = w.ewes;
        w = other;
        for (int s = 0; s < 8; s++) {
            if (shelf[s] instanceof E e) {
                int number = old.indexOf(e);
                shelf[s] = number < w.ewes.size() ? w.ewes.get(number) : null;
            }
        }
    }

    int hill() {
        World d = w.twin();
        int answer;
        try {
            answer = readAll(d);
            become(d);
        } catch (Fault f) {
            refused[0]++;
            answer = -20 - f.place;
        }
        tape.setLength(0);
        return answer;
    }

    int eweOf(int e, int what) {
        E ewe = eweAt(e);
        within(what, 0, 5);
        return new int[] {ewe.kind, ewe.a, ewe.at.number(), w.in(ewe) ? 1 : 0, ewe.at.to(w.dog), ewe.at.to(w.pen)}[what];
    }

    int hasWall(int c) {
        return w.walls.contains(cell(c)) ? 1 : 0;
    }

    /** The most that can be IN behind just so many, and the first ROW for it: [how many, commands]. */
    static int[] mostBy(World v, int m) {
        if (m == 0) {
            return new int[] {v.in()};
        }
        int[] best = null;
        for (int c = 0; c < 5; c++) {
            if (v.can(c)) {
                World t = v.twin();
                t.turn(c);
                int[] then = mostBy(t, m - 1);
                if (best == null || then[0] > best[0]) {
                    best = new int[m + 1];
                    best[0] = then[0];
                    best[1] = c;
                    System.arraycopy(then, 1, best, 2, m - 1);
                }
            }
        }
        return best;
    }

    int fewest(int m, int i) {
        within(m, 0, 6);
        bad(i < -1);
        for (int length = 0; length <= m; length++) {
            int[] row = mostBy(w, length);
            if (row[0] == w.ewes.size()) {
                stuck(i >= length);
                return i == -1 ? length : row[1 + i];
            }
        }
        stuck(i >= 0);
        return -1;
    }

    int most(int m, int i) {
        within(m, 0, 5);
        within(i, -1, m - 1);
        return mostBy(w, m)[1 + i];
    }

    int stand() {
        P best = null;
        int least = 1000;
        for (P p : w.cells()) {
            if (w.dogCan(p)) {
                World t = w.withDog(p);
                t.turn(0);
                if (t.sum() < least) {
                    least = t.sum();
                    best = p;
                }
            }
        }
        return best.number();
    }

    int shy(int e) {
        E ewe = eweAt(e);
        int most = -1;
        for (P p : w.cells()) {
            if (w.dogCan(p) && (w.withDog(p).movedBits() >> e & 1) == 1) {
                most = Math.max(most, p.to(ewe.at));
            }
        }
        return most;
    }

    int late(int s, int n, int l) {
        within(l, 0, 3);
        within(n, 0, 40);
        int[] told = commands(s, n);
        World t = w.twin();
        for (int k = 0; k < n + l; k++) {
            t.turn(k < l ? 0 : told[k - l]);
        }
        return t.in();
    }

    int bare() {
        int bits = 0;
        for (int k = 0; k < w.side; k++) {
            int i = k;
            if (w.walls.stream().noneMatch(p -> p.r == i) && w.ewes.stream().noneMatch(e -> e.at.r == i)) {
                bits += 1 << i;
            }
            if (w.walls.stream().noneMatch(p -> p.c == i) && w.ewes.stream().noneMatch(e -> e.at.c == i)) {
                bits += 128 << i;
            }
        }
        return bits;
    }

    long waysAllIn(World v, int[] told, int i) {
        if (i == told.length) {
            return v.in() == v.ewes.size() ? 1 : 0;
        }
        long ways = 0;
        if (v.wind > 0) {
            World t = v.twin();
            t.turn(t.did);
            ways += v.wind * waysAllIn(t, told, i + 1);
        }
        if (v.wind < 12) {
            World t = v.twin();
            t.turn(told[i]);
            ways += (12 - v.wind) * waysAllIn(t, told, i + 1);
        }
        return ways;
    }

    int odds(int s, int n) {
        within(n, 0, 6);
        int[] told = commands(s, n);
        long all = 1;
        for (int i = 0; i < n; i++) {
            all *= 12;
        }
        return (int) (1000000L * waysAllIn(w, told, 0) / all);
    }

    int ewes(int what) {
        within(what, 0, 3);
        if (what == 0) {
            return w.apart();
        }
        if (what == 3) {
            return w.movedBits();
        }
        int flock = 0;
        int nearest = -1;
        for (int e = 0; e < w.ewes.size(); e++) {
            E ewe = w.ewes.get(e);
            if (w.in(ewe)) {
                continue;
            }
            if (w.ewes.stream().anyMatch(o -> !w.in(o) && o.at.to(ewe.at) > 2)) {
                flock |= 1 << e;
            }
            if (nearest == -1 || ewe.at.to(w.dog) < w.ewes.get(nearest).at.to(w.dog)) {
                nearest = e;
            }
        }
        return what == 1 ? flock : nearest;
    }

    /** How many COMMANDS THE DOG needs to each CELL. */
    Map<P, Integer> paths() {
        Map<P, Integer> far = new HashMap<>();
        List<P> queue = new ArrayList<>(List.of(w.dog));
        far.put(w.dog, 0);
        for (int i = 0; i < queue.size(); i++) {
            for (P p : queue.get(i).beside()) {
                if (w.dogCan(p) && !far.containsKey(p)) {
                    far.put(p, far.get(queue.get(i)) + 1);
                    queue.add(p);
                }
            }
        }
        return far;
    }

    int path(int c) {
        return paths().getOrDefault(cell(c), -1);
    }

    int reach(int n) {
        within(n, 0, 99);
        return (int) paths().values().stream().filter(f -> f <= n).count();
    }

    int waysFrom(P p, int n) {
        if (n == 0) {
            return 1;
        }
        int ways = waysFrom(p, n - 1);
        for (P q : p.beside()) {
            ways += w.dogCan(q) ? waysFrom(q, n - 1) : 0;
        }
        return ways;
    }

    int ways(int n) {
        within(n, 0, 6);
        return waysFrom(w.dog, n);
    }

    int open(int c) {
        int open = 0;
        for (P p : cell(c).beside()) {
            open += w.free(p) ? 1 : 0;
        }
        return open;
    }

    int still(int what) {
        within(what, 0, 1);
        int none = 0;
        int most = 0;
        for (P p : w.cells()) {
            if (w.dogCan(p)) {
                World t = w.withDog(p);
                t.turn(0);
                int went = 0;
                for (int e = 0; e < w.ewes.size(); e++) {
                    went += t.ewes.get(e).at.equals(w.ewes.get(e).at) ? 0 : 1;
                }
                none += went == 0 ? 1 : 0;
                most = Math.max(most, went);
            }
        }
        return what == 0 ? none : most;
    }

    int held() {
        int bits = 0;
        for (int e = 0; e < w.ewes.size(); e++) {
            E ewe = w.ewes.get(e);
            if (!w.in(ewe) && ewe.at.to(w.dog) <= 3 && w.goal(ewe, ewe.kind).equals(ewe.at)) {
                bits |= 1 << e;
            }
        }
        return bits;
    }

    int grazing() {
        int bits = 0;
        for (int e = 0; e < w.ewes.size(); e++) {
            bits |= !w.in(w.ewes.get(e)) && w.ewes.get(e).at.to(w.dog) > 3 ? 1 << e : 0;
        }
        return bits;
    }

    int last() {
        int last = -1;
        for (int e = 0; e < w.ewes.size(); e++) {
            if (last == -1 || w.ewes.get(e).at.to(w.pen) > w.ewes.get(last).at.to(w.pen)) {
                last = e;
            }
        }
        return last;
    }

    int near(int e, int n) {
        E ewe = eweAt(e);
        within(n, 0, 12);
        int bits = 0;
        for (int o = 0; o < w.ewes.size(); o++) {
            bits |= o != e && w.ewes.get(o).at.to(ewe.at) <= n ? 1 << o : 0;
        }
        return bits;
    }

    int steps() {
        return w.sum();
    }

    int best() {
        int best = -1;
        int least = 1000;
        for (int c = 0; c < 5; c++) {
            if (w.can(c)) {
                World t = w.twin();
                t.turn(c);
                if (t.sum() < least) {
                    least = t.sum();
                    best = c;
                }
            }
        }
        return best;
    }

    int kinds(int s, int t, int n, int e) {
        within(s, 0, 7);
        within(t, 0, 7);
        within(n, 0, 40);
        E ewe = eweAt(e);
        rowOf(s, t);
        long[] dogs = (long[]) shelf[s];
        long[] own = (long[]) shelf[t];
        bad(dogs.length < n || own.length < n);
        stuck(w.in(ewe));
        for (int i = 0; i < n; i++) {
            for (long v : new long[] {dogs[i], own[i]}) {
                stuck(v < 0 || v > 66 || !w.on(P.of(v)));
            }
        }
        int bits = 0;
        for (int kind = 0; kind < 6; kind++) {
            World v = w.twin();
            v.ewes.get(e).kind = kind;
            boolean so = true;
            for (int i = 0; i < n; i++) {
                v.dog = P.of(dogs[i]);
                v.ewes.get(e).at = v.goal(v.ewes.get(e), kind);
                so &= v.ewes.get(e).at.number() == own[i];
            }
            bits |= so ? 1 << kind : 0;
        }
        return bits;
    }

    int judge(int s, int n) {
        within(n, 0, 40);
        long[] row = rowOf(s);
        bad(n > row.length);
        return wrong(row, n);
    }

    int behind(int s, int n, int what) {
        within(n, 0, 40);
        bad(what < 0 || what > 2 && what < 10 || what > 14 || what >= 10 + w.ewes.size());
        int[] told = doable(s, n);
        World t = w.twin();
        for (int c : told) {
            t.turn(c);
        }
        return switch (what) {
            case 0 -> t.in();
            case 1 -> t.dog.number();
            case 2 -> t.apart();
            default -> t.ewes.get(what - 10).at.number();
        };
    }

    int done(int s, int n) {
        within(n, 0, 40);
        for (int c : doable(s, n)) {
            w.turn(c);
            w.turns++;
        }
        return w.in();
    }

    int turn(int command) {
        within(command, 0, 4);
        stuck(!w.can(command));
        w.turn(command);
        w.turns++;
        return w.in();
    }

    int evening(int n) {
        within(n, 1, 60);
        int ahead = w.in();
        for (int i = 0; i < n; i++) {
            int c = w.draw(5);
            if (w.draw(12) < w.wind) {
                c = w.did;
            }
            w.turn(c);
            w.turns++;
        }
        return w.in() - ahead;
    }

    int seed(int v) {
        int was = w.seed;
        w.seed = v;
        return was;
    }

    int image() {
        imaged = w.twin();
        return 1;
    }

    int back() {
        stuck(imaged == null);
        become(imaged.twin());
        return 1;
    }

    int status(int what) {
        int filled = 0;
        for (Object o : shelf) {
            filled += o == null ? 0 : 1;
        }
        int[] all = {w.ewes.size(), w.side, w.pen.number(), w.dog.number(), w.wind, w.turns, w.in(), w.walls.size(), w.did,
            tape.length(), w.seed, filled, refused[0], refused[1], refused[2], refused[3], refused[4]};
        return what < 0 || what >= all.length ? -1 : all[what];
    }
}
