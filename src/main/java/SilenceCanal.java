import java.util.Arrays;

/** A canal that carries silence: locks in a row, barges of kinds, hours, and what is asked of them. */
public final class SilenceCanal {
    public static final int BAD = -1, FULL = -2, NONE = -3;

    private static final int NO_ROW = -9;
    private static final int NOTHING = -11, OUTSIDE = -12, OTHER_SORT = -13, BELOW_ZERO = -14, PARTED_BY_ZERO = -15;
    private static final int FAULT_BASE = -100;

    private static final int LOCKS = 10, LAST_LOCK = 9, ALL_LOCKS = 1023;
    private static final int BARGES = 8, KINDS = 6, LAWS = 4;
    private static final int LOAD_MOST = 99, NOISE_MOST = 9, LOST_MOST = 9999;
    private static final int ECHO = 0, HUSH = 1, WIND = 2, LAUGH = 3;
    private static final int MUTE = 1, LOVER = 2, BISHOP = 3, MILLER = 4, DEALER = 5;
    private static final int TRIED_HOURS = 60;
    private static final int TAPE_MOST = 200;
    private static final int ROWS = 10, ROW_PARTS = 3;
    private static final int SHEETS = 4, SHEET_MOST = 40, MISSING = -1;
    private static final int SHELVES = 4, HOLDS_BARGE = 0, HOLDS_ROW = 1, HOLDS_NOTHING = 2;
    private static final int ACTS = 4, TRACE_MOST = 30, DEPTH_MOST = 30;

    private static final int[] LAWS_AT_FIRST = {3, 2, 1, 20};
    private static final int[] LAWS_AT_MOST = {9, 9, 9, 99};
    private static final int[] KIND_ABOVE = {-1, 0, 0, 1, 2, 0};
    /** The body that each KIND runs for each ACT, its own or the nearest above it. */
    private static final int[] BODIES = {
        10, 11, 12, 13,
        10, 20, 12, 13,
        30, 11, 12, 31,
        51, 20, 50, 13,
        40, 41, 12, 31,
        10, 11, 61, 60,
    };

    private final Canal now = new Canal();
    private final Canal tried = new Canal();
    private final Canal kept = new Canal();
    private boolean isKept = false;
    private final Text tape = new Text();
    private final int[] rows = new int[ROWS * ROW_PARTS];
    private int rowCount = 0;
    private final Sheet[] sheets = new Sheet[SHEETS];
    private final Shelf[] shelves = new Shelf[SHELVES];
    private final Acts acts = new Acts();

    public SilenceCanal() {
        for (int i = 0; i < SHEETS; i++) {
            sheets[i] = new Sheet();
        }
        for (int i = 0; i < SHELVES; i++) {
            shelves[i] = new Shelf();
        }
    }

    // ---- the tape

    public int feed(long eight, int n) {
        if (n < 1 || n > 8) {
            return BAD;
        }
        if (tape.size + n > TAPE_MOST) {
            return FULL;
        }
        for (int i = 0; i < n; i++) {
            tape.append((byte) (eight >>> (8 * i)));
        }
        return tape.size;
    }

    public int canal() {
        tried.copyFrom(now);
        tried.clearAllButDraws();
        int fault = tape.readInto(tried);
        tape.size = 0;
        if (fault >= 0) {
            return FAULT_BASE - fault;
        }
        now.copyFrom(tried);
        rowCount = 0;
        return now.count;
    }

    // ---- laws, barges and locks

    public int set(int law, int v) {
        if (!isLaw(law) || v < 0 || v > LAWS_AT_MOST[law]) {
            return BAD;
        }
        int was = now.laws[law];
        now.laws[law] = v;
        return was;
    }

    public int lawOf(int law) {
        return isLaw(law) ? now.laws[law] : BAD;
    }

    public int barge(int kind, int load, int lock, int bound) {
        if (!isKind(kind) || !isLoad(load) || !isLock(lock) || !isLock(bound)) {
            return BAD;
        }
        if (now.count >= BARGES) {
            return FULL;
        }
        now.add(kind, load, 0, lock, bound);
        return now.count - 1;
    }

    public int of(int barge, int what) {
        if (!isBarge(barge)) {
            return BAD;
        }
        switch (what) {
            case 0: return now.kind[barge];
            case 1: return now.load[barge];
            case 2: return now.sort[barge];
            case 3: return now.at[barge];
            case 4: return now.bound[barge];
            case 5: return now.hasLanded(barge) ? 1 : 0;
            default: return BAD;
        }
    }

    public int does(int barge, int what) {
        if (!isBarge(barge) || what < 0 || what > 1) {
            return BAD;
        }
        if (what == 0) {
            return 1000 + now.paceOf(barge);
        }
        return 1000 + now.spillOf(barge, now.noiseAt(now.at[barge]));
    }

    public int mind(int barge, int kind, int sort) {
        if (!isBarge(barge) || !isKind(kind) || sort < 0 || sort > 1) {
            return BAD;
        }
        int was = now.kind[barge];
        now.kind[barge] = kind;
        now.sort[barge] = sort;
        return was;
    }

    public int fill(int barge, int v) {
        if (!isBarge(barge) || !isLoad(v)) {
            return BAD;
        }
        int was = now.load[barge];
        now.load[barge] = v;
        return was;
    }

    public int bring(int barge, int lock) {
        if (!isBarge(barge) || !isLock(lock)) {
            return BAD;
        }
        int was = now.at[barge];
        now.at[barge] = lock;
        return was;
    }

    public int send(int barge, int lock) {
        if (!isBarge(barge) || !isLock(lock)) {
            return BAD;
        }
        int was = now.bound[barge];
        now.bound[barge] = lock;
        return was;
    }

    public int noise(int lock, int v) {
        if (!isLock(lock) || v < 0 || v > NOISE_MOST) {
            return BAD;
        }
        int was = now.noise[lock];
        now.noise[lock] = v;
        return was;
    }

    public int lock(int lock, int what) {
        if (!isLock(lock)) {
            return BAD;
        }
        switch (what) {
            case 0: return now.noise[lock];
            case 1: return now.lost[lock];
            case 2: return now.bargesAt(lock);
            default: return BAD;
        }
    }

    // ---- hours and draws

    public int hours(int n) {
        if (n < 1 || n > TRIED_HOURS) {
            return BAD;
        }
        now.passHours(n);
        return now.allLoads();
    }

    public int seed(int v) {
        int was = now.z;
        now.z = v;
        return was;
    }

    public int hour() {
        now.passHourByDraws();
        return now.allLoads();
    }

    public int spoilt(int n) {
        if (n < 1 || n > 30) {
            return BAD;
        }
        int unspoilt = triedCargo(1, 0, -1);
        int z = now.z;
        int spoilt = 0;
        for (int i = 0; i < n; i++) {
            tried.copyFrom(now);
            tried.z = z;
            tried.passHourByDraws();
            z = tried.z;
            if (tried.allLoads() < unspoilt) {
                spoilt++;
            }
        }
        return spoilt;
    }

    public int state(int what) {
        switch (what) {
            case 0: return now.hour;
            case 1: return now.allLoads();
            case 2: return now.allLost();
            case 3: return now.landedSet();
            case 4: return now.usedLocks();
            case 5: return now.loudest();
            default: return BAD;
        }
    }

    // ---- what is tried

    public int freight(int barge, int n) {
        if (!isBarge(barge) || n < 0 || n > TRIED_HOURS) {
            return BAD;
        }
        tried.copyFrom(now);
        return triedFreight(barge, n);
    }

    public int lands(int barge) {
        if (!isBarge(barge)) {
            return BAD;
        }
        tried.copyFrom(now);
        for (int i = 0; i <= TRIED_HOURS; i++) {
            if (tried.hasLanded(barge)) {
                return i;
            }
            tried.passHour();
        }
        return NONE;
    }

    public int meets(int barge, int other) {
        if (!isBarge(barge) || !isBarge(other) || barge == other) {
            return BAD;
        }
        tried.copyFrom(now);
        for (int i = 0; i <= TRIED_HOURS; i++) {
            if (tried.at[barge] == tried.at[other]) {
                return i;
            }
            tried.passHour();
        }
        return NONE;
    }

    public int quiet() {
        tried.copyFrom(now);
        for (int i = 0; i <= TRIED_HOURS; i++) {
            if (tried.allLanded()) {
                return i;
            }
            tried.passHour();
        }
        return NONE;
    }

    public int cargo(int n) {
        return n < 0 || n > TRIED_HOURS ? BAD : triedCargo(n, 0, -1);
    }

    public int stillFor(int barge, int n) {
        if (!isBarge(barge) || n < 1 || n > 30) {
            return BAD;
        }
        tried.copyFrom(now);
        int most = triedFreight(barge, n);
        int best = NONE;
        for (int lock = 0; lock < LOCKS; lock++) {
            tried.copyFrom(now);
            tried.noise[lock] = 0;
            int freight = triedFreight(barge, n);
            if (freight > most) {
                most = freight;
                best = lock;
            }
        }
        return best;
    }

    public int kindFor(int barge, int n) {
        if (!isBarge(barge) || n < 1 || n > 30) {
            return BAD;
        }
        int most = -1;
        int best = 0;
        for (int kind = 0; kind < KINDS; kind++) {
            tried.copyFrom(now);
            tried.kind[barge] = kind;
            int freight = triedFreight(barge, n);
            if (freight > most) {
                most = freight;
                best = kind;
            }
        }
        return best;
    }

    public int loadFor(int barge, int n, int v) {
        if (!isBarge(barge) || n < 1 || n > 30 || !isLoad(v)) {
            return BAD;
        }
        for (int load = 0; load <= LOAD_MOST; load++) {
            tried.copyFrom(now);
            tried.load[barge] = load;
            if (triedFreight(barge, n) >= v) {
                return load;
            }
        }
        return NONE;
    }

    public int hushedFor(int n, int v) {
        if (n < 1 || n > 20 || v < 0 || v > 999) {
            return BAD;
        }
        // Less noise never leaves less in any barge: what all stilled locks can't do, no set can.
        if (triedCargo(n, ALL_LOCKS, -1) < v) {
            return NONE;
        }
        int useful = now.loudOnTheWay();
        for (int size = 0; size <= LOCKS; size++) {
            for (int set = 0; set <= ALL_LOCKS; set++) {
                boolean isCandidate = (set & ~useful) == 0 && Integer.bitCount(set) == size;
                if (isCandidate && triedCargo(n, set, -1) >= v) {
                    return set;
                }
            }
        }
        return NONE;
    }

    public int holdFor(int n) {
        if (n < 1 || n > 30) {
            return BAD;
        }
        int most = triedCargo(n, 0, -1);
        int best = NONE;
        for (int barge = 0; barge < now.count; barge++) {
            int cargo = triedCargo(n, 0, barge);
            if (cargo > most) {
                most = cargo;
                best = barge;
            }
        }
        return best;
    }

    public int fits(int sheet, int barge, int what) {
        Sheet told = sheetAt(sheet);
        if (told == null || !isBarge(barge) || what < 0 || what > 1) {
            return BAD;
        }
        if (told.sort == MISSING) {
            return NOTHING;
        }
        int many = 0;
        int least = NONE;
        for (int load = 0; load <= LOAD_MOST; load++) {
            if (loadFits(told, barge, load)) {
                many++;
                least = least == NONE ? load : least;
            }
        }
        return what == 0 ? many : least;
    }

    // ---- odds

    public long odds(int n, int k, int part) {
        if (n < 0 || n > 8 || k < 0 || k > n || part < 0 || part > 1) {
            return BAD;
        }
        long above = ways(n, k);
        long below = 1;
        for (int i = 0; i < n; i++) {
            above *= i < k ? now.laws[LAUGH] : 100 - now.laws[LAUGH];
            below *= 100;
        }
        return partOf(above, below, part);
    }

    public long hope(int n, int part) {
        if (n < 0 || n > 99 || part < 0 || part > 1) {
            return BAD;
        }
        return partOf((long) n * now.laws[LAUGH], 100, part);
    }

    // ---- rows of hours

    public int prove(int barge, int n) {
        if (!isBarge(barge) || n < 1 || n > ROWS) {
            return BAD;
        }
        tried.copyFrom(now);
        for (int i = 0; i < n; i++) {
            tried.passHour();
            for (int what = 0; what < ROW_PARTS; what++) {
                rows[i * ROW_PARTS + what] = triedRowPart(barge, what);
            }
        }
        rowCount = n;
        return n;
    }

    public int row(int i, int what) {
        return isRowPart(i, what) ? rows[i * ROW_PARTS + what] : NO_ROW;
    }

    public int alterRow(int i, int what, int v) {
        if (!isRowPart(i, what)) {
            return NO_ROW;
        }
        int was = rows[i * ROW_PARTS + what];
        rows[i * ROW_PARTS + what] = v;
        return was;
    }

    public int judge(int barge) {
        if (!isBarge(barge)) {
            return BAD;
        }
        tried.copyFrom(now);
        for (int i = 0; i < rowCount && i < ROWS; i++) {
            tried.passHour();
            for (int what = 0; what < ROW_PARTS; what++) {
                if (rows[i * ROW_PARTS + what] != triedRowPart(barge, what)) {
                    return i + 1;
                }
            }
        }
        return 0;
    }

    // ---- sheets

    public int minds(int sheet, int i, int barge, int n) {
        Sheet from = sheetAt(sheet);
        if (from == null || !isBarge(barge) || n < 0 || n > BARGES || n > now.count - barge) {
            return BAD;
        }
        if (from.sort == MISSING) {
            return NOTHING;
        }
        if (from.sort != 0) {
            return OTHER_SORT;
        }
        if (i < 0 || i > from.size || n > from.size - i) {
            return OUTSIDE;
        }
        for (int j = 0; j < n; j++) {
            now.load[barge + j] = heldLoad(from.items[i + j]);
        }
        return n;
    }

    public int sheet(int sheet, int sort, int n) {
        Sheet made = sheetAt(sheet);
        if (made == null || sort < MISSING || sort > 3) {
            return BAD;
        }
        if (sort == MISSING) {
            made.clearTo(MISSING, 0);
            return 1;
        }
        if (n > SHEET_MOST) {
            return BAD;
        }
        if (n < 0) {
            return BELOW_ZERO;
        }
        made.clearTo(sort, n);
        return 1;
    }

    public int put(int sheet, int i, int v) {
        Sheet into = sheetAt(sheet);
        if (into == null) {
            return BAD;
        }
        if (into.sort == MISSING) {
            return NOTHING;
        }
        if (!into.hasItem(i)) {
            return OUTSIDE;
        }
        into.items[i] = into.narrowed(v);
        return 1;
    }

    public int item(int sheet, int sort, int i) {
        Sheet from = sheetAt(sheet);
        if (from == null || sort < 0 || sort > 3) {
            return BAD;
        }
        if (from.sort == MISSING) {
            return NOTHING;
        }
        if (from.sort != sort) {
            return OTHER_SORT;
        }
        return from.hasItem(i) ? from.items[i] : OUTSIDE;
    }

    // ---- shelves and acts

    public int shelf(int shelf, int what, int n) {
        Shelf on = shelfAt(shelf);
        if (on == null) {
            return BAD;
        }
        if (what == HOLDS_NOTHING) {
            on.clear();
            return 1;
        }
        if (what == HOLDS_BARGE && isBarge(n)) {
            on.holdBarge(n);
            return 1;
        }
        Sheet held = sheetAt(n);
        if (what == HOLDS_ROW && held != null) {
            on.holdRow(held.sort, held.size);
            return 1;
        }
        return BAD;
    }

    public int taken(int shelf, int as) {
        Shelf from = shelfAt(shelf);
        boolean asRow = as >= 10 && as <= 13;
        if (from == null || (!isKind(as) && !asRow)) {
            return BAD;
        }
        if (from.what == HOLDS_ROW) {
            return asRow && from.rowSort == as - 10 ? from.rowSize : OTHER_SORT;
        }
        int barge = bargeOn(from);
        if (barge < 0) {
            return NOTHING;
        }
        return !asRow && isUnder(now.kind[barge], as) ? barge : OTHER_SORT;
    }

    public int act(int shelf, int act, int x) {
        acts.traced = 0;
        int barge = bargeOn(shelfAt(shelf));
        if (barge < 0 || act < 0 || act >= ACTS) {
            return 0;
        }
        return acts.perform(act, now.kind[barge], barge, now.at[barge], x);
    }

    public int trace(int i) {
        return i >= 0 && i < acts.traced && i < TRACE_MOST ? acts.bodies[i] : NONE;
    }

    public int many(int what) {
        switch (what) {
            case 0: return now.count;
            case 1: return Integer.bitCount(now.landedSet());
            case 2: return Integer.bitCount(now.usedLocks());
            case 3: return now.locksWithLoss();
            case 4: return rowCount;
            case 5: return tape.size;
            case 6: return acts.traced;
            default: return BAD;
        }
    }

    // ---- canals kept

    public int keep() {
        kept.copyFrom(now);
        isKept = true;
        return 1;
    }

    public int again() {
        if (!isKept) {
            return NONE;
        }
        now.copyFrom(kept);
        return now.count;
    }

    // ---- helpers

    private boolean isBarge(int barge) {
        return barge >= 0 && barge < now.count && barge < BARGES;
    }

    private static boolean isKind(int kind) {
        return kind >= 0 && kind < KINDS;
    }

    private static boolean isLaw(int law) {
        return law >= 0 && law < LAWS;
    }

    private static boolean isLock(int lock) {
        return lock >= 0 && lock < LOCKS;
    }

    private static boolean isLoad(int load) {
        return load >= 0 && load <= LOAD_MOST;
    }

    private boolean isRowPart(int i, int what) {
        return i >= 0 && i < rowCount && i < ROWS && what >= 0 && what < ROW_PARTS;
    }

    private static int heldLoad(int load) {
        return load < 0 ? 0 : load > LOAD_MOST ? LOAD_MOST : load;
    }

    private static boolean isUnder(int kind, int as) {
        int above = kind;
        for (int i = 0; i < KINDS && isKind(above); i++) {
            if (above == as) {
                return true;
            }
            above = KIND_ABOVE[above];
        }
        return false;
    }

    private Sheet sheetAt(int sheet) {
        return sheet >= 0 && sheet < SHEETS ? sheets[sheet] : null;
    }

    private Shelf shelfAt(int shelf) {
        return shelf >= 0 && shelf < SHELVES ? shelves[shelf] : null;
    }

    /** The number of the barge that a shelf holds now, or -1. */
    private int bargeOn(Shelf shelf) {
        if (shelf == null || shelf.what != HOLDS_BARGE || !isBarge(shelf.barge)) {
            return -1;
        }
        return shelf.barge;
    }

    /** Goes on from what the tried canal already is, so that a caller can alter it first. */
    private int triedFreight(int barge, int n) {
        tried.passHours(n);
        return isBarge(barge) ? tried.load[barge] : 0;
    }

    private int triedCargo(int n, int stilled, int heldBack) {
        tried.copyFrom(now);
        tried.still(stilled);
        tried.heldBack = heldBack;
        tried.passHours(n);
        return tried.allLoads();
    }

    private boolean loadFits(Sheet told, int barge, int load) {
        if (!isBarge(barge)) {
            return false;
        }
        tried.copyFrom(now);
        tried.load[barge] = load;
        for (int i = 0; i < told.size && i < SHEET_MOST; i++) {
            tried.passHour();
            if (told.items[i] != -1 && told.items[i] != tried.load[barge]) {
                return false;
            }
        }
        return true;
    }

    private int triedRowPart(int barge, int what) {
        if (!isBarge(barge)) {
            return 0;
        }
        switch (what) {
            case 0: return tried.at[barge];
            case 1: return tried.load[barge];
            default: return tried.allLost();
        }
    }

    private static long ways(int n, int k) {
        long ways = 1;
        for (int i = 0; i < k; i++) {
            ways = ways * (n - i) / (i + 1);
        }
        return ways;
    }

    private static long partOf(long above, long below, int part) {
        long a = above;
        long b = below;
        for (int i = 0; i < 200 && b != 0; i++) {
            long rest = a % b;
            a = b;
            b = rest;
        }
        if (a == 0) {
            return 0;
        }
        return (part == 0 ? above : below) / a;
    }

    /** All that is kept: laws, locks, barges, the hour and what draws go on from. */
    private static final class Canal {
        final int[] laws = new int[LAWS];
        final int[] noise = new int[LOCKS];
        final int[] lost = new int[LOCKS];
        final int[] kind = new int[BARGES];
        final int[] load = new int[BARGES];
        final int[] sort = new int[BARGES];
        final int[] at = new int[BARGES];
        final int[] bound = new int[BARGES];
        int count = 0;
        int hour = 0;
        int z = 1;
        int heldBack = -1;

        Canal() {
            System.arraycopy(LAWS_AT_FIRST, 0, laws, 0, LAWS);
            Arrays.fill(noise, 2);
        }

        void clearAllButDraws() {
            System.arraycopy(LAWS_AT_FIRST, 0, laws, 0, LAWS);
            Arrays.fill(noise, 2);
            Arrays.fill(lost, 0);
            count = 0;
            hour = 0;
        }

        void copyFrom(Canal other) {
            System.arraycopy(other.laws, 0, laws, 0, LAWS);
            System.arraycopy(other.noise, 0, noise, 0, LOCKS);
            System.arraycopy(other.lost, 0, lost, 0, LOCKS);
            System.arraycopy(other.kind, 0, kind, 0, BARGES);
            System.arraycopy(other.load, 0, load, 0, BARGES);
            System.arraycopy(other.sort, 0, sort, 0, BARGES);
            System.arraycopy(other.at, 0, at, 0, BARGES);
            System.arraycopy(other.bound, 0, bound, 0, BARGES);
            count = other.count;
            hour = other.hour;
            z = other.z;
            heldBack = -1;
        }

        void add(int itsKind, int itsLoad, int itsSort, int lock, int boundFor) {
            if (count < 0 || count >= BARGES) {
                return;
            }
            kind[count] = itsKind;
            load[count] = itsLoad;
            sort[count] = itsSort;
            at[count] = lock;
            bound[count] = boundFor;
            count++;
        }

        void still(int locks) {
            for (int i = 0; i < LOCKS; i++) {
                if ((locks >> i & 1) == 1) {
                    noise[i] = 0;
                }
            }
        }

        boolean hasLanded(int barge) {
            return at[barge] == bound[barge];
        }

        boolean allLanded() {
            return landedSet() == (1 << count) - 1;
        }

        int noiseAt(int lock) {
            return isLock(lock) ? noise[lock] : 0;
        }

        int paceOf(int barge) {
            switch (kind[barge]) {
                case LOVER:
                case BISHOP: return 2;
                case MILLER: return 2 - (hour & 1);
                case DEALER: return 1 + laws[WIND];
                default: return 1;
            }
        }

        int spillOf(int barge, int itsNoise) {
            switch (kind[barge]) {
                case MUTE: return itsNoise / 2;
                case BISHOP: return itsNoise / 2 - laws[HUSH];
                case LOVER: return itsNoise - 1;
                case MILLER: return itsNoise - 1 + load[barge] / 10;
                case DEALER: return hour % 3 == 0 ? itsNoise * 2 : 0;
                default: return itsNoise;
            }
        }

        void passHours(int n) {
            for (int i = 0; i < n; i++) {
                if (allLanded()) {
                    hour += n - i;
                    return;
                }
                passHour();
            }
        }

        void passHour() {
            for (int i = 0; i < count && i < BARGES; i++) {
                if (i != heldBack && !hasLanded(i)) {
                    goOn(i);
                    echoWithOthers(i);
                }
            }
            hour++;
        }

        private void goOn(int barge) {
            int pace = paceOf(barge);
            for (int i = 0; i < pace && !hasLanded(barge); i++) {
                int lock = at[barge] + (bound[barge] > at[barge] ? 1 : -1);
                at[barge] = lock;
                spill(barge, lock, spillOf(barge, noiseAt(lock)));
            }
        }

        private void echoWithOthers(int barge) {
            int lock = at[barge];
            for (int i = 0; i < count && i < BARGES; i++) {
                if (at[i] == lock && i != barge && sort[i] != sort[barge] && !hasLanded(i)) {
                    spill(barge, lock, laws[ECHO]);
                    spill(i, lock, laws[ECHO]);
                }
            }
        }

        private void spill(int barge, int lock, int much) {
            int was = load[barge];
            load[barge] = heldLoad(was - much);
            if (load[barge] < was && isLock(lock)) {
                lost[lock] = Math.min(LOST_MOST, lost[lock] + was - load[barge]);
            }
        }

        void passHourByDraws() {
            if (count > 0) {
                int struck = draw() % count;
                boolean laughs = draw() % 100 < laws[LAUGH];
                if (laughs && struck >= 0 && struck < BARGES) {
                    load[struck] /= 2;
                }
            }
            passHour();
        }

        private int draw() {
            z = z * 1103515245 + 12345;
            return z >>> 16;
        }

        int allLoads() {
            int sum = 0;
            for (int i = 0; i < count && i < BARGES; i++) {
                sum += load[i];
            }
            return sum;
        }

        int allLost() {
            int sum = 0;
            for (int i = 0; i < LOCKS; i++) {
                sum += lost[i];
            }
            return sum;
        }

        int landedSet() {
            int set = 0;
            for (int i = 0; i < count && i < BARGES; i++) {
                if (hasLanded(i)) {
                    set |= 1 << i;
                }
            }
            return set;
        }

        int usedLocks() {
            int set = 0;
            for (int i = 0; i < count && i < BARGES; i++) {
                set |= 1 << at[i];
            }
            return set;
        }

        int bargesAt(int lock) {
            int set = 0;
            for (int i = 0; i < count && i < BARGES; i++) {
                if (at[i] == lock) {
                    set |= 1 << i;
                }
            }
            return set;
        }

        int loudest() {
            int loudest = LOCKS;
            int most = 0;
            for (int i = 0; i < LOCKS; i++) {
                if (lost[i] > most) {
                    most = lost[i];
                    loudest = i;
                }
            }
            return loudest;
        }

        int locksWithLoss() {
            int many = 0;
            for (int i = 0; i < LOCKS; i++) {
                if (lost[i] > 0) {
                    many++;
                }
            }
            return many;
        }

        /** No other lock belongs to a set of fewest: stilling it would change nothing. */
        int loudOnTheWay() {
            int set = 0;
            for (int i = 0; i < count && i < BARGES; i++) {
                int low = Math.min(at[i], bound[i]);
                int high = Math.max(at[i], bound[i]);
                for (int lock = low; lock <= high; lock++) {
                    if (lock != at[i] && noiseAt(lock) > 0) {
                        set |= 1 << lock;
                    }
                }
            }
            return set;
        }
    }

    /** The tape, and the reader of a canal's text on it. */
    private static final class Text {
        private static final int END = 0, NAME = 1, NUMBER = 2, MARK = 3;
        private static final int LOAD_UNTOLD = 50;

        final byte[] bytes = new byte[TAPE_MOST];
        int size = 0;
        private int sort = END;
        private int start = 0;
        private int end = 0;

        void append(byte one) {
            if (size >= 0 && size < TAPE_MOST) {
                bytes[size] = one;
                size++;
            }
        }

        /** The place of the fault, or -1 if there is none. */
        int readInto(Canal canal) {
            end = 0;
            step();
            for (int i = 0; i < TAPE_MOST && sort != END; i++) {
                if (!readLine(canal)) {
                    return start;
                }
            }
            return -1;
        }

        private boolean readLine(Canal canal) {
            for (int i = 0; i < KINDS; i++) {
                if (isName(kindName(i))) {
                    return readBarge(canal, i);
                }
            }
            for (int i = 0; i < LAWS; i++) {
                if (takeName(lawName(i))) {
                    return readLaw(canal, i);
                }
            }
            return takeName("noise") && readNoise(canal);
        }

        private boolean readBarge(Canal canal, int kind) {
            if (canal.count >= BARGES) {
                return false;
            }
            step();
            int at = takeName("at") ? takeNumber(LAST_LOCK) : -1;
            int bound = at >= 0 && takeName("for") ? takeNumber(LAST_LOCK) : -1;
            if (bound < 0) {
                return false;
            }
            int load = takeName("load") ? takeNumber(LOAD_MOST) : LOAD_UNTOLD;
            if (load < 0) {
                return false;
            }
            int other = takeName("other") ? 1 : 0;
            if (!takeEndOfLine()) {
                return false;
            }
            canal.add(kind, load, other, at, bound);
            return true;
        }

        private boolean readLaw(Canal canal, int law) {
            if (!isLaw(law)) {
                return false;
            }
            int v = takeNumber(LAWS_AT_MOST[law]);
            if (v < 0 || !takeEndOfLine()) {
                return false;
            }
            canal.laws[law] = v;
            return true;
        }

        private boolean readNoise(Canal canal) {
            int lock = takeNumber(LAST_LOCK);
            int v = lock >= 0 && takeName("is") ? takeNumber(NOISE_MOST) : -1;
            if (v < 0 || !isLock(lock) || !takeEndOfLine()) {
                return false;
            }
            canal.noise[lock] = v;
            return true;
        }

        private static String kindName(int kind) {
            switch (kind) {
                case MUTE: return "mute";
                case LOVER: return "lover";
                case BISHOP: return "bishop";
                case MILLER: return "miller";
                case DEALER: return "dealer";
                default: return "barge";
            }
        }

        private static String lawName(int law) {
            switch (law) {
                case ECHO: return "echo";
                case HUSH: return "hush";
                case WIND: return "wind";
                default: return "laugh";
            }
        }

        private boolean isName(String name) {
            if (sort != NAME || end - start != name.length()) {
                return false;
            }
            for (int i = 0; i < name.length(); i++) {
                if (byteAt(start + i) != name.charAt(i)) {
                    return false;
                }
            }
            return true;
        }

        private boolean takeName(String name) {
            if (!isName(name)) {
                return false;
            }
            step();
            return true;
        }

        /** The number that stands here, or -1 (and it still stands here) if none from 0 to most does. */
        private int takeNumber(int most) {
            if (sort != NUMBER || end - start > 3) {
                return -1;
            }
            int v = 0;
            for (int i = start; i < end; i++) {
                v = v * 10 + byteAt(i) - '0';
            }
            if (v > most) {
                return -1;
            }
            step();
            return v;
        }

        private boolean takeEndOfLine() {
            if (sort != MARK || byteAt(start) != ';') {
                return false;
            }
            step();
            return true;
        }

        private void step() {
            start = end;
            while (start < size && byteAt(start) == ' ') {
                start++;
            }
            end = start;
            if (isLetter(byteAt(start))) {
                sort = NAME;
                while (end < size && isLetter(byteAt(end))) {
                    end++;
                }
            } else if (isDigit(byteAt(start))) {
                sort = NUMBER;
                while (end < size && isDigit(byteAt(end))) {
                    end++;
                }
            } else if (start < size) {
                sort = MARK;
                end++;
            } else {
                sort = END;
            }
        }

        private int byteAt(int i) {
            return i >= 0 && i < size && i < TAPE_MOST ? bytes[i] : -1;
        }

        private static boolean isLetter(int one) {
            return one >= 'a' && one <= 'z';
        }

        private static boolean isDigit(int one) {
            return one >= '0' && one <= '9';
        }
    }

    /** A row of a sort; items come as ints alone, so that ints hold longs too. */
    private static final class Sheet {
        final int[] items = new int[SHEET_MOST];
        int sort = MISSING;
        int size = 0;

        void clearTo(int newSort, int newSize) {
            Arrays.fill(items, 0);
            sort = newSort;
            size = newSize;
        }

        boolean hasItem(int i) {
            return i >= 0 && i < size && i < SHEET_MOST;
        }

        int narrowed(int v) {
            switch (sort) {
                case 0: return (byte) v;
                case 1: return (short) v;
                default: return v;
            }
        }
    }

    /** Of a row only sort and size are held: they outlast what becomes of its sheet, and no call asks for more. */
    private static final class Shelf {
        int what = HOLDS_NOTHING;
        int barge = 0;
        int rowSort = 0;
        int rowSize = 0;

        void clear() {
            what = HOLDS_NOTHING;
        }

        void holdBarge(int number) {
            what = HOLDS_BARGE;
            barge = number;
        }

        void holdRow(int sort, int size) {
            what = sort == MISSING ? HOLDS_NOTHING : HOLDS_ROW;
            rowSort = sort;
            rowSize = size;
        }
    }

    /** The bodies of the acts, run for one thing at a time, and the trace of them. */
    private static final class Acts {
        private static final int FLOATS = 0, SLOPS = 1, PARTS = 2;

        final int[] bodies = new int[TRACE_MOST];
        int traced = 0;
        private int kind = 0;
        private int n = 0;
        private int a = 0;
        private boolean isParted = false;

        int perform(int act, int itsKind, int number, int lock, int x) {
            traced = 0;
            isParted = false;
            kind = itsKind;
            n = number;
            a = lock;
            int answer = run(bodyOf(act), x, 0);
            return isParted ? PARTED_BY_ZERO : answer;
        }

        private int bodyOf(int act) {
            int place = kind * ACTS + act;
            return place >= 0 && place < BODIES.length ? BODIES[place] : 0;
        }

        private int run(int body, int x, int depth) {
            if (depth > DEPTH_MOST || isParted) {
                return 0;
            }
            if (traced < TRACE_MOST) {
                bodies[traced] = body;
                traced++;
            }
            int d = depth + 1;
            switch (body) {
                case 10: return x * 3 + n;
                case 11: return run(bodyOf(FLOATS), x, d) - a * 2;
                case 12: return partedBy(x, a - n);
                case 13: return run(bodyOf(SLOPS), x, d) ^ 170;
                case 20: return 0 - run(11, x, d);
                case 30: return run(10, x, d) + 4;
                case 31: return run(13, x, d) - run(bodyOf(PARTS), n, d);
                case 40: return run(30, x, d) * 2;
                case 41: return run(11, x, d) + run(bodyOf(FLOATS), a, d);
                case 50: return run(12, x + a, d) ^ n;
                case 51: return run(10, x, d) - 7;
                case 60: return run(13, x, d) * 5;
                case 61: return run(12, x, d) - run(bodyOf(FLOATS), n, d);
                default: return 0;
            }
        }

        private int partedBy(int x, int by) {
            if (by == 0) {
                isParted = true;
                return 0;
            }
            return x / by;
        }
    }
}
