import java.math.BigInteger;
import java.util.ArrayList;
import java.util.List;

/**
 * The document once more, written as differently from the program as it goes: things are objects with
 * real inheritance, tries are deep copies, searches are whole, and the host's exceptions are caught.
 */
public final class NaiveCanal {
    private static final String[] KINDS = {"barge", "mute", "lover", "bishop", "miller", "dealer"};
    private static final String[] LAWS = {"echo", "hush", "wind", "laugh"};
    private static final int[] LAW_MOST = {9, 9, 9, 99};

    private static class Boat {
        int n, load, sort, at, bound;
        boolean held;

        Boat(int n, int load, int sort, int at, int bound) {
            this.n = n; this.load = load; this.sort = sort; this.at = at; this.bound = bound;
        }

        static Boat make(int kind, int n, int load, int sort, int at, int bound) {
            switch (kind) {
                case 0: return new Boat(n, load, sort, at, bound);
                case 1: return new Mute(n, load, sort, at, bound);
                case 2: return new Lover(n, load, sort, at, bound);
                case 3: return new Bishop(n, load, sort, at, bound);
                case 4: return new Miller(n, load, sort, at, bound);
                case 5: return new Dealer(n, load, sort, at, bound);
                default: throw new IllegalStateException();
            }
        }

        int kind() { return 0; }
        Boat as(int kind) { return make(kind, n, load, sort, at, bound); }
        boolean landed() { return at == bound; }
        int pace(World w) { return 1; }
        int spills(World w, int lock) { return w.noise[lock]; }

        int floats(List<Integer> t, int x) { t.add(10); return x * 3 + n; }
        int slops(List<Integer> t, int x) { t.add(11); return floats(t, x) - at * 2; }
        int parts(List<Integer> t, int x) { t.add(12); return x / (at - n); }
        int lands(List<Integer> t, int x) { t.add(13); return slops(t, x) ^ 170; }
    }

    private static class Mute extends Boat {
        Mute(int n, int load, int sort, int at, int bound) { super(n, load, sort, at, bound); }
        int kind() { return 1; }
        int spills(World w, int lock) { return super.spills(w, lock) / 2; }
        int slops(List<Integer> t, int x) { t.add(20); return 0 - super.slops(t, x); }
    }

    private static class Lover extends Boat {
        Lover(int n, int load, int sort, int at, int bound) { super(n, load, sort, at, bound); }
        int kind() { return 2; }
        int pace(World w) { return super.pace(w) + 1; }
        int spills(World w, int lock) { return super.spills(w, lock) - 1; }
        int floats(List<Integer> t, int x) { t.add(30); return super.floats(t, x) + 4; }
        int lands(List<Integer> t, int x) { t.add(31); return super.lands(t, x) - parts(t, n); }
    }

    private static final class Bishop extends Mute {
        Bishop(int n, int load, int sort, int at, int bound) { super(n, load, sort, at, bound); }
        int kind() { return 3; }
        int pace(World w) { return super.pace(w) + 1; }
        int spills(World w, int lock) { return super.spills(w, lock) - w.laws[1]; }
        int parts(List<Integer> t, int x) { t.add(50); return super.parts(t, x + at) ^ n; }
        int floats(List<Integer> t, int x) { t.add(51); return super.floats(t, x) - 7; }
    }

    private static final class Miller extends Lover {
        Miller(int n, int load, int sort, int at, int bound) { super(n, load, sort, at, bound); }
        int kind() { return 4; }
        int pace(World w) { return super.pace(w) - w.hour % 2; }
        int spills(World w, int lock) { return super.spills(w, lock) + load / 10; }
        int floats(List<Integer> t, int x) { t.add(40); return super.floats(t, x) * 2; }
        int slops(List<Integer> t, int x) { t.add(41); return super.slops(t, x) + floats(t, at); }
    }

    private static final class Dealer extends Boat {
        Dealer(int n, int load, int sort, int at, int bound) { super(n, load, sort, at, bound); }
        int kind() { return 5; }
        int pace(World w) { return super.pace(w) + w.laws[2]; }
        int spills(World w, int lock) { return w.hour % 3 == 0 ? super.spills(w, lock) * 2 : 0; }
        int lands(List<Integer> t, int x) { t.add(60); return super.lands(t, x) * 5; }
        int parts(List<Integer> t, int x) { t.add(61); return super.parts(t, x) - floats(t, n); }
    }

    private static final class World {
        int[] laws = {3, 2, 1, 20};
        int[] noise = {2, 2, 2, 2, 2, 2, 2, 2, 2, 2};
        int[] lost = new int[10];
        int hour = 0;
        int z = 1;
        List<Boat> boats = new ArrayList<>();

        World copy() {
            World w = new World();
            w.laws = laws.clone(); w.noise = noise.clone(); w.lost = lost.clone();
            w.hour = hour; w.z = z;
            for (Boat b : boats) w.boats.add(b.as(b.kind()));
            return w;
        }

        World after(int n) {
            World w = copy();
            for (int i = 0; i < boats.size(); i++) w.boats.get(i).held = boats.get(i).held;
            for (int i = 0; i < n; i++) w.pass();
            return w;
        }

        void pass() {
            for (Boat b : boats) {
                if (b.landed() || b.held) continue;
                int pace = b.pace(this);
                while (pace-- > 0 && !b.landed()) {
                    b.at += Integer.signum(b.bound - b.at);
                    lose(b, b.spills(this, b.at));
                }
                for (Boat o : boats) {
                    if (o != b && o.at == b.at && o.sort != b.sort && !o.landed()) {
                        lose(b, laws[0]);
                        lose(o, laws[0]);
                    }
                }
            }
            hour++;
        }

        void lose(Boat b, int much) {
            int next = Math.max(0, Math.min(99, b.load - much));
            lost[b.at] = Math.min(9999, lost[b.at] + Math.max(0, b.load - next));
            b.load = next;
        }

        int draw() {
            z = z * 1103515245 + 12345;
            return z >>> 16;
        }

        void passByDraws() {
            if (!boats.isEmpty()) {
                Boat b = boats.get(draw() % boats.size());
                if (draw() % 100 < laws[3]) b.load = b.load / 2;
            }
            pass();
        }

        int loads() { int s = 0; for (Boat b : boats) s += b.load; return s; }
        int allLost() { int s = 0; for (int l : lost) s += l; return s; }
        int landed() { int s = 0; for (Boat b : boats) if (b.landed()) s |= 1 << b.n; return s; }
        int used() { int s = 0; for (Boat b : boats) s |= 1 << b.at; return s; }
    }

    private static final class Fault extends Exception {
        private static final long serialVersionUID = 1;
        final int place;
        Fault(int place) { this.place = place; }
    }

    private record Token(String text, int place) { }

    private static final class Reader {
        final List<Token> tokens = new ArrayList<>();
        int next = 0;

        Reader(String text) {
            java.util.regex.Matcher m = java.util.regex.Pattern.compile("[a-z]+|[0-9]+|[^ ]", java.util.regex.Pattern.DOTALL).matcher(text);
            while (m.find()) tokens.add(new Token(m.group(), m.start()));
            tokens.add(new Token("", text.length()));
        }

        Token peek() { return tokens.get(next); }
        boolean at(String text) { return peek().text.equals(text); }
        boolean accept(String text) { if (at(text)) { next++; return true; } return false; }
        void expect(String text) throws Fault { if (!accept(text)) throw new Fault(peek().place); }

        int number(int most) throws Fault {
            Token t = peek();
            if (!t.text.matches("[0-9]{1,3}") || Integer.parseInt(t.text) > most) throw new Fault(t.place);
            next++;
            return Integer.parseInt(t.text);
        }

        World read() throws Fault {
            World w = new World();
            while (!at("")) line(w);
            return w;
        }

        private void line(World w) throws Fault {
            int kind = List.of(KINDS).indexOf(peek().text);
            int law = List.of(LAWS).indexOf(peek().text);
            if (kind >= 0) {
                if (w.boats.size() == 8) throw new Fault(peek().place);
                next++;
                expect("at");
                int at = number(9);
                expect("for");
                int bound = number(9);
                int load = accept("load") ? number(99) : 50;
                int sort = accept("other") ? 1 : 0;
                w.boats.add(Boat.make(kind, w.boats.size(), load, sort, at, bound));
            } else if (law >= 0) {
                next++;
                w.laws[law] = number(LAW_MOST[law]);
            } else {
                expect("noise");
                int lock = number(9);
                expect("is");
                w.noise[lock] = number(9);
            }
            expect(";");
        }
    }

    private World w = new World();
    private World kept = null;
    private StringBuilder tape = new StringBuilder();
    private List<int[]> rows = new ArrayList<>();
    private final Object[] sheets = new Object[4];
    private final Object[] shelves = new Object[4];
    private List<Integer> trace = new ArrayList<>();

    private static boolean in(int v, int low, int high) { return v >= low && v <= high; }
    private boolean boat(int b) { return in(b, 0, w.boats.size() - 1); }

    public int feed(long eight, int n) {
        if (!in(n, 1, 8)) return -1;
        if (tape.length() + n > 200) return -2;
        for (int i = 0; i < n; i++) { tape.append((char) (eight & 255)); eight >>= 8; }
        return tape.length();
    }

    public int canal() {
        String text = tape.toString();
        tape = new StringBuilder();
        try {
            World read = new Reader(text).read();
            read.z = w.z;
            w = read;
            rows = new ArrayList<>();
            return w.boats.size();
        } catch (Fault f) {
            return -100 - f.place;
        }
    }

    public int set(int law, int v) {
        if (!in(law, 0, 3) || !in(v, 0, LAW_MOST[law])) return -1;
        int was = w.laws[law];
        w.laws[law] = v;
        return was;
    }

    public int lawOf(int law) { return in(law, 0, 3) ? w.laws[law] : -1; }

    public int barge(int kind, int load, int lock, int bound) {
        if (!in(kind, 0, 5) || !in(load, 0, 99) || !in(lock, 0, 9) || !in(bound, 0, 9)) return -1;
        if (w.boats.size() == 8) return -2;
        w.boats.add(Boat.make(kind, w.boats.size(), load, 0, lock, bound));
        return w.boats.size() - 1;
    }

    public int of(int barge, int what) {
        if (!boat(barge) || !in(what, 0, 5)) return -1;
        Boat b = w.boats.get(barge);
        return new int[] {b.kind(), b.load, b.sort, b.at, b.bound, b.landed() ? 1 : 0}[what];
    }

    public int does(int barge, int what) {
        if (!boat(barge) || !in(what, 0, 1)) return -1;
        Boat b = w.boats.get(barge);
        return 1000 + (what == 0 ? b.pace(w) : b.spills(w, b.at));
    }

    public int mind(int barge, int kind, int sort) {
        if (!boat(barge) || !in(kind, 0, 5) || !in(sort, 0, 1)) return -1;
        Boat was = w.boats.get(barge);
        Boat is = was.as(kind);
        is.sort = sort;
        w.boats.set(barge, is);
        return was.kind();
    }

    public int fill(int barge, int v) {
        if (!boat(barge) || !in(v, 0, 99)) return -1;
        int was = w.boats.get(barge).load;
        w.boats.get(barge).load = v;
        return was;
    }

    public int bring(int barge, int lock) {
        if (!boat(barge) || !in(lock, 0, 9)) return -1;
        int was = w.boats.get(barge).at;
        w.boats.get(barge).at = lock;
        return was;
    }

    public int send(int barge, int lock) {
        if (!boat(barge) || !in(lock, 0, 9)) return -1;
        int was = w.boats.get(barge).bound;
        w.boats.get(barge).bound = lock;
        return was;
    }

    public int noise(int lock, int v) {
        if (!in(lock, 0, 9) || !in(v, 0, 9)) return -1;
        int was = w.noise[lock];
        w.noise[lock] = v;
        return was;
    }

    public int lock(int lock, int what) {
        if (!in(lock, 0, 9) || !in(what, 0, 2)) return -1;
        int at = 0;
        for (Boat b : w.boats) if (b.at == lock) at |= 1 << b.n;
        return new int[] {w.noise[lock], w.lost[lock], at}[what];
    }

    public int hours(int n) {
        if (!in(n, 1, 60)) return -1;
        w = w.after(n);
        return w.loads();
    }

    public int seed(int v) { int was = w.z; w.z = v; return was; }

    public int hour() { w.passByDraws(); return w.loads(); }

    public int spoilt(int n) {
        if (!in(n, 1, 30)) return -1;
        int many = 0;
        int z = w.z;
        for (int i = 0; i < n; i++) {
            World t = w.copy();
            t.z = z;
            t.passByDraws();
            z = t.z;
            if (t.loads() < w.after(1).loads()) many++;
        }
        return many;
    }

    public int state(int what) {
        if (!in(what, 0, 5)) return -1;
        int loudest = 10;
        for (int i = 9; i >= 0; i--) {
            if (w.lost[i] > 0 && (loudest == 10 || w.lost[i] >= w.lost[loudest])) loudest = i;
        }
        return new int[] {w.hour, w.loads(), w.allLost(), w.landed(), w.used(), loudest}[what];
    }

    public int freight(int barge, int n) {
        return boat(barge) && in(n, 0, 60) ? w.after(n).boats.get(barge).load : -1;
    }

    public int lands(int barge) {
        if (!boat(barge)) return -1;
        for (int n = 0; n <= 60; n++) if (w.after(n).boats.get(barge).landed()) return n;
        return -3;
    }

    public int meets(int barge, int other) {
        if (!boat(barge) || !boat(other) || barge == other) return -1;
        for (int n = 0; n <= 60; n++) {
            World t = w.after(n);
            if (t.boats.get(barge).at == t.boats.get(other).at) return n;
        }
        return -3;
    }

    public int quiet() {
        for (int n = 0; n <= 60; n++) if (Integer.bitCount(w.after(n).landed()) == w.boats.size()) return n;
        return -3;
    }

    public int cargo(int n) { return in(n, 0, 60) ? w.after(n).loads() : -1; }

    public int stillFor(int barge, int n) {
        if (!boat(barge) || !in(n, 1, 30)) return -1;
        int[] by = new int[10];
        int most = freight(barge, n);
        for (int l = 0; l < 10; l++) {
            World t = w.copy();
            t.noise[l] = 0;
            by[l] = t.after(n).boats.get(barge).load;
            most = Math.max(most, by[l]);
        }
        if (most == freight(barge, n)) return -3;
        int l = 0;
        while (by[l] != most) l++;
        return l;
    }

    public int kindFor(int barge, int n) {
        if (!boat(barge) || !in(n, 1, 30)) return -1;
        int best = 5;
        int most = -1;
        for (int k = 5; k >= 0; k--) {
            World t = w.copy();
            t.boats.set(barge, t.boats.get(barge).as(k));
            int f = t.after(n).boats.get(barge).load;
            if (f >= most) { most = f; best = k; }
        }
        return best;
    }

    public int loadFor(int barge, int n, int v) {
        if (!boat(barge) || !in(n, 1, 30) || !in(v, 0, 99)) return -1;
        int least = -3;
        for (int load = 99; load >= 0; load--) {
            World t = w.copy();
            t.boats.get(barge).load = load;
            if (t.after(n).boats.get(barge).load >= v) least = load;
        }
        return least;
    }

    public int hushedFor(int n, int v) {
        if (!in(n, 1, 20) || !in(v, 0, 999)) return -1;
        int best = -3;
        for (int set = 1023; set >= 0; set--) {
            if (best >= 0 && Integer.bitCount(set) > Integer.bitCount(best)) continue;
            World t = w.copy();
            for (int l = 0; l < 10; l++) if ((set & 1 << l) != 0) t.noise[l] = 0;
            if (t.after(n).loads() >= v) best = set;
        }
        return best;
    }

    public int holdFor(int n) {
        if (!in(n, 1, 30)) return -1;
        int best = -3;
        int most = cargo(n) + 1;
        for (int b = w.boats.size() - 1; b >= 0; b--) {
            World t = w.copy();
            t.boats.get(b).held = true;
            int c = t.after(n).loads();
            if (c >= most) { most = c; best = b; }
        }
        return best;
    }

    private static int length(Object row) { return java.lang.reflect.Array.getLength(row); }
    private static long get(Object row, int i) { return java.lang.reflect.Array.getLong(row, i); }

    private static int sortOf(Object row) {
        return row instanceof byte[] ? 0 : row instanceof short[] ? 1 : row instanceof int[] ? 2 : 3;
    }

    public int fits(int sheet, int barge, int what) {
        if (!in(sheet, 0, 3) || !boat(barge) || !in(what, 0, 1)) return -1;
        Object row = sheets[sheet];
        if (row == null) return -11;
        List<Integer> fit = new ArrayList<>();
        for (int load = 0; load < 100; load++) {
            World t = w.copy();
            t.boats.get(barge).load = load;
            boolean is = true;
            for (int i = 0; i < length(row); i++) {
                t.pass();
                is &= get(row, i) == -1 || get(row, i) == t.boats.get(barge).load;
            }
            if (is) fit.add(load);
        }
        return what == 0 ? fit.size() : fit.isEmpty() ? -3 : fit.get(0);
    }

    private static long part(BigInteger above, BigInteger below, int part) {
        BigInteger g = above.gcd(below);
        return (part == 0 ? above : below).divide(g).longValueExact();
    }

    public long odds(int n, int k, int part) {
        if (!in(n, 0, 8) || !in(k, 0, n) || !in(part, 0, 1)) return -1;
        long ways = 0;
        for (int set = 0; set < 1 << n; set++) if (Integer.bitCount(set) == k) ways++;
        BigInteger p = BigInteger.valueOf(w.laws[3]);
        BigInteger q = BigInteger.valueOf(100 - w.laws[3]);
        return part(p.pow(k).multiply(q.pow(n - k)).multiply(BigInteger.valueOf(ways)), BigInteger.valueOf(100).pow(n), part);
    }

    public long hope(int n, int part) {
        if (!in(n, 0, 99) || !in(part, 0, 1)) return -1;
        return part(BigInteger.valueOf(n * w.laws[3]), BigInteger.valueOf(100), part);
    }

    private List<int[]> rowsOf(int barge, int n) {
        List<int[]> made = new ArrayList<>();
        for (int i = 1; i <= n; i++) {
            World t = w.after(i);
            Boat b = t.boats.get(barge);
            made.add(new int[] {b.at, b.load, t.allLost()});
        }
        return made;
    }

    public int prove(int barge, int n) {
        if (!boat(barge) || !in(n, 1, 10)) return -1;
        rows = rowsOf(barge, n);
        return n;
    }

    public int row(int i, int what) {
        return in(i, 0, rows.size() - 1) && in(what, 0, 2) ? rows.get(i)[what] : -9;
    }

    public int alterRow(int i, int what, int v) {
        int was = row(i, what);
        if (in(i, 0, rows.size() - 1) && in(what, 0, 2)) rows.get(i)[what] = v;
        return was;
    }

    public int judge(int barge) {
        if (!boat(barge)) return -1;
        List<int[]> must = rowsOf(barge, rows.size());
        for (int i = 0; i < rows.size(); i++) {
            if (!java.util.Arrays.equals(must.get(i), rows.get(i))) return i + 1;
        }
        return 0;
    }

    public int minds(int sheet, int i, int barge, int n) {
        if (!in(sheet, 0, 3) || !boat(barge) || !in(n, 0, 8) || barge + n > w.boats.size()) return -1;
        if (sheets[sheet] == null) return -11;
        if (!(sheets[sheet] instanceof byte[] row)) return -13;
        if (!in(i, 0, row.length) || (long) i + n > row.length) return -12;
        for (int j = 0; j < n; j++) w.boats.get(barge + j).load = Math.max(0, Math.min(99, row[i + j]));
        return n;
    }

    public int sheet(int sheet, int sort, int n) {
        if (!in(sheet, 0, 3) || !in(sort, -1, 3)) return -1;
        if (sort == -1) { sheets[sheet] = null; return 1; }
        if (n > 40) return -1;
        try {
            sheets[sheet] = switch (sort) {
                case 0 -> new byte[n];
                case 1 -> new short[n];
                case 2 -> new int[n];
                default -> new long[n];
            };
            return 1;
        } catch (NegativeArraySizeException e) {
            return -14;
        }
    }

    public int put(int sheet, int i, int v) {
        if (!in(sheet, 0, 3)) return -1;
        Object row = sheets[sheet];
        if (row == null) return -11;
        if (!in(i, 0, length(row) - 1)) return -12;
        if (row instanceof byte[] b) b[i] = (byte) v;
        if (row instanceof short[] s) s[i] = (short) v;
        if (row instanceof int[] n) n[i] = v;
        if (row instanceof long[] l) l[i] = v;
        return 1;
    }

    public int item(int sheet, int sort, int i) {
        if (!in(sheet, 0, 3) || !in(sort, 0, 3)) return -1;
        Object row = sheets[sheet];
        if (row == null) return -11;
        if (sortOf(row) != sort) return -13;
        return in(i, 0, length(row) - 1) ? (int) get(row, i) : -12;
    }

    public int shelf(int shelf, int what, int n) {
        if (!in(shelf, 0, 3) || !in(what, 0, 2)) return -1;
        if (what == 0 && !boat(n) || what == 1 && !in(n, 0, 3)) return -1;
        shelves[shelf] = what == 0 ? Integer.valueOf(n) : what == 1 ? sheets[n] : null;
        return 1;
    }

    private Object onShelf(int shelf) {
        if (shelves[shelf] instanceof Integer n) return boat(n) ? w.boats.get(n) : null;
        return shelves[shelf];
    }

    private static final Class<?>[] THINGS = {Boat.class, Mute.class, Lover.class, Bishop.class, Miller.class, Dealer.class};

    public int taken(int shelf, int as) {
        if (!in(shelf, 0, 3) || !in(as, 0, 5) && !in(as, 10, 13)) return -1;
        Object on = onShelf(shelf);
        if (on == null) return -11;
        if (on instanceof Boat b) return as < 10 && THINGS[as].isInstance(b) ? b.n : -13;
        return as >= 10 && sortOf(on) == as - 10 ? length(on) : -13;
    }

    public int act(int shelf, int act, int x) {
        trace = new ArrayList<>();
        if (!in(shelf, 0, 3) || !in(act, 0, 3) || !(onShelf(shelf) instanceof Boat b)) return 0;
        try {
            return switch (act) {
                case 0 -> b.floats(trace, x);
                case 1 -> b.slops(trace, x);
                case 2 -> b.parts(trace, x);
                default -> b.lands(trace, x);
            };
        } catch (ArithmeticException e) {
            return -15;
        }
    }

    public int trace(int i) { return in(i, 0, Math.min(30, trace.size()) - 1) ? trace.get(i) : -3; }

    public int many(int what) {
        if (!in(what, 0, 6)) return -1;
        int lossy = 0;
        for (int l : w.lost) if (l > 0) lossy++;
        return new int[] {w.boats.size(), Integer.bitCount(w.landed()), Integer.bitCount(w.used()), lossy, rows.size(),
            tape.length(), Math.min(30, trace.size())}[what];
    }

    public int keep() { kept = w.copy(); return 1; }

    public int again() {
        if (kept == null) return -3;
        w = kept.copy();
        return w.boats.size();
    }
}
