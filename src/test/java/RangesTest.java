import java.lang.reflect.Method;
import java.lang.reflect.Modifier;
import java.util.Set;
import java.util.TreeSet;

/**
 * Every number of every call to which the document gives a range: each one in the range is taken, and those next
 * to its ends and the ends of int are refused. Each call is made on an object of its own.
 */
public final class RangesTest {
    private static final Check CHECK = new Check("RangesTest", new Doc());
    private static final int BAD = -1, NO_ROW = -9, OUTSIDE = -12, NONE = -3;
    private static final Set<String> LOOKED_AT = new TreeSet<>();

    public static void main(String[] args) throws Exception {
        tapeAndLaws();
        barges();
        locksAndHours();
        triedHours();
        choices();
        oddsAndRows();
        sheets();
        shelves();
        everyNumberIsLookedAt();
        CHECK.end();
    }

    /** Three barges, four sheets of five bytes, a barge on each shelf, four rows, a trace of two bodies. */
    private static SilenceCanal ready() {
        SilenceCanal x = Check.told("barge at 0 for 9;mute at 2 for 8 other;lover at 9 for 0;");
        for (int i = 0; i < 4; i++) {
            x.sheet(i, 0, 5);
            x.shelf(i, 0, 2);
        }
        x.prove(0, 4);
        x.act(0, 0, 1);
        return x;
    }

    private static Method named(String call) {
        for (Method m : SilenceCanal.class.getDeclaredMethods()) {
            if (m.getName().equals(call) && Modifier.isPublic(m.getModifiers())) {
                return m;
            }
        }
        throw new IllegalStateException(call);
    }

    private static long answer(String call, int place, int v, long[] others) throws Exception {
        Method m = named(call);
        Object[] arguments = new Object[others.length];
        for (int i = 0; i < others.length; i++) {
            long one = i == place ? v : others[i];
            if (m.getParameterTypes()[i] == long.class) {
                arguments[i] = one;
            } else {
                arguments[i] = (int) one;
            }
        }
        return ((Number) m.invoke(ready(), arguments)).longValue();
    }

    /** The number at a place of a call is from low to high; others are what the call has at the other places. */
    private static void range(String call, int place, int low, int high, int refusal, long... others) throws Exception {
        LOOKED_AT.add(call + " " + place);
        for (int v = low; v <= high; v++) {
            CHECK.holds(call + ", " + v + " at " + place + " is taken", answer(call, place, v, others) != refusal);
        }
        int[] beyond = {low - 1, low - 2, Integer.MIN_VALUE, high + 1, high + 2, Integer.MAX_VALUE, low - 256, high + 256};
        for (int v : beyond) {
            CHECK.due(call + ", " + v + " at " + place, answer(call, place, v, others), refusal);
        }
    }

    private static void tapeAndLaws() throws Exception {
        CHECK.sentence("Promise 2", "n bytes (1 to 8) come to THE TAPE");
        range("feed", 1, 1, 8, BAD, 0, 0);
        CHECK.sentence("Promise 4", "A LAW becomes v: what it was. BAD.");
        range("set", 0, 0, 3, BAD, 0, 9);
        CHECK.sentence("Terms 1", "LAWS: 0 ECHO (0 to 9; 3 at first), 1 HUSH (0 to 9; 2), 2 WIND (0 to 9; 1)");
        for (int law = 0; law < 3; law++) {
            range("set", 1, 0, 9, BAD, law, 0);
        }
        CHECK.sentence("Terms 1", "3 LAUGH (0 to 99 of a hundred; 20)");
        range("set", 1, 0, 99, BAD, 3, 0);
        CHECK.sentence("Promise 5", "A LAW. BAD.");
        range("lawOf", 0, 0, 3, BAD, 0);
    }

    private static void barges() throws Exception {
        CHECK.sentence("Promise 6", "One more, of SORT 0, AT a LOCK, BOUND for one: its number. BAD; FULL.");
        range("barge", 0, 0, 5, BAD, 0, 50, 0, 9);
        range("barge", 1, 0, 99, BAD, 0, 50, 0, 9);
        range("barge", 2, 0, 9, BAD, 0, 50, 0, 9);
        range("barge", 3, 0, 9, BAD, 0, 50, 0, 9);
        CHECK.sentence("Promise 7", "Of one: what = 0 KIND, 1 LOAD, 2 SORT, 3 AT, 4 BOUND for which, 5 1 if it has LANDED, else 0. BAD.");
        range("of", 0, 0, 2, BAD, 0, 0);
        range("of", 1, 0, 5, BAD, 0, 0);
        CHECK.sentence("Promise 8", "BAD.");
        range("does", 0, 0, 2, BAD, 0, 0);
        range("does", 1, 0, 1, BAD, 0, 0);
        CHECK.sentence("Promise 9", "One becomes one of another KIND, of another SORT: the KIND that it was. BAD.");
        range("mind", 0, 0, 2, BAD, 0, 1, 1);
        range("mind", 1, 0, 5, BAD, 0, 1, 1);
        range("mind", 2, 0, 1, BAD, 0, 1, 1);
        CHECK.sentence("Promise 10", "LOAD becomes v: what it was. BAD.");
        range("fill", 0, 0, 2, BAD, 0, 7);
        range("fill", 1, 0, 99, BAD, 0, 7);
        CHECK.sentence("Promise 11", "It is AT a LOCK from now on: AT which it was. BAD.");
        range("bring", 0, 0, 2, BAD, 0, 7);
        range("bring", 1, 0, 9, BAD, 0, 7);
        CHECK.sentence("Promise 12", "It is BOUND for a LOCK from now on: for which it was. BAD.");
        range("send", 0, 0, 2, BAD, 0, 7);
        range("send", 1, 0, 9, BAD, 0, 7);
    }

    private static void locksAndHours() throws Exception {
        CHECK.sentence("Promise 13", "NOISE of a LOCK becomes v: what it was. BAD.");
        range("noise", 0, 0, 9, BAD, 0, 7);
        range("noise", 1, 0, 9, BAD, 0, 7);
        CHECK.sentence("Promise 14", "Of a LOCK: what = 0 NOISE, 1 LOST, 2 those AT it, as a set. BAD.");
        range("lock", 0, 0, 9, BAD, 0, 0);
        range("lock", 1, 0, 2, BAD, 0, 0);
        CHECK.sentence("Promise 15", "n HOURS (1 to 60): LOADS of all together then. BAD.");
        range("hours", 0, 1, 60, BAD, 0);
        CHECK.sentence("Promise 18", "SPOILT (n 1 to 30). BAD.");
        range("spoilt", 0, 1, 30, BAD, 0);
        CHECK.sentence("Promise 19", "What = 0 HOUR");
        range("state", 0, 0, 5, BAD, 0);
        CHECK.sentence("Promise 45", "BAD: another what.");
        range("many", 0, 0, 6, BAD, 0);
    }

    private static void triedHours() throws Exception {
        CHECK.sentence("Promise 20", "FREIGHT of one by n (0 to 60). BAD.");
        range("freight", 0, 0, 2, BAD, 0, 5);
        range("freight", 1, 0, 60, BAD, 0, 5);
        CHECK.sentence("Promise 21", "BAD; NONE: not by then.");
        range("lands", 0, 0, 2, BAD, 0);
        CHECK.sentence("Promise 22", "BAD: also one and the same");
        range("meets", 0, 0, 1, BAD, 0, 2);
        range("meets", 1, 1, 2, BAD, 0, 2);
        CHECK.sentence("Promise 24", "CARGO by n (0 to 60). BAD.");
        range("cargo", 0, 0, 60, BAD, 0);
    }

    private static void choices() throws Exception {
        CHECK.sentence("Promise 25", "STILL FOR one, n (1 to 30). BAD");
        range("stillFor", 0, 0, 2, BAD, 0, 5);
        range("stillFor", 1, 1, 30, BAD, 0, 5);
        CHECK.sentence("Promise 26", "KIND FOR one, n (1 to 30). BAD.");
        range("kindFor", 0, 0, 2, BAD, 0, 5);
        range("kindFor", 1, 1, 30, BAD, 0, 5);
        CHECK.sentence("Promise 27", "LOAD FOR one, n (1 to 30), v (0 to 99). BAD");
        range("loadFor", 0, 0, 2, BAD, 0, 5, 5);
        range("loadFor", 1, 1, 30, BAD, 0, 5, 5);
        range("loadFor", 2, 0, 99, BAD, 0, 5, 5);
        CHECK.sentence("Promise 28", "HUSHED FOR n (1 to 20), v (0 to 999). BAD");
        range("hushedFor", 0, 1, 20, BAD, 5, 5);
        range("hushedFor", 1, 0, 999, BAD, 5, 5);
        CHECK.sentence("Promise 29", "HOLD FOR n (1 to 30). BAD");
        range("holdFor", 0, 1, 30, BAD, 0);
        CHECK.sentence("Promise 30", "BAD: no such SHEET, one, what");
        range("fits", 0, 0, 3, BAD, 0, 0, 0);
        range("fits", 1, 0, 2, BAD, 0, 0, 0);
        range("fits", 2, 0, 1, BAD, 0, 0, 0);
    }

    private static void oddsAndRows() throws Exception {
        CHECK.sentence("Promise 31", "ODDS by n (0 to 8), k (0 to n): a part of them. BAD.");
        range("odds", 0, 0, 8, BAD, 0, 0, 0);
        for (int n = 0; n <= 8; n++) {
            range("odds", 1, 0, n, BAD, n, 0, 0);
        }
        range("odds", 2, 0, 1, BAD, 3, 1, 0);
        CHECK.sentence("Promise 32", "HOPE by n (0 to 99): a part of it. BAD.");
        range("hope", 0, 0, 99, BAD, 0, 0);
        range("hope", 1, 0, 1, BAD, 7, 0);
        CHECK.sentence("Promise 33", "ROWS of one by n HOURS (1 to 10): how many. BAD.");
        range("prove", 0, 0, 2, BAD, 0, 5);
        range("prove", 1, 1, 10, BAD, 0, 5);
        CHECK.sentence("Promise 34", "-9: there is none such, another what.");
        range("row", 0, 0, 3, NO_ROW, 0, 0);
        range("row", 1, 0, 2, NO_ROW, 0, 0);
        CHECK.sentence("Promise 35", "-9 likewise.");
        range("alterRow", 0, 0, 3, NO_ROW, 0, 0, 7);
        range("alterRow", 1, 0, 2, NO_ROW, 0, 0, 7);
        CHECK.sentence("Promise 36", "BAD.");
        range("judge", 0, 0, 2, BAD, 0);
    }

    private static void sheets() throws Exception {
        CHECK.sentence("Promise 37", "BAD: no such SHEET, one, n, or n goes beyond the last one");
        range("minds", 0, 0, 3, BAD, 0, 0, 0, 1);
        range("minds", 2, 0, 2, BAD, 0, 0, 0, 1);
        range("minds", 2, 0, 2, BAD, 0, 0, 0, 0);
        for (int barge = 0; barge < 3; barge++) {
            range("minds", 3, 0, 3 - barge, BAD, 0, 0, barge, 0);
        }
        CHECK.sentence("Promise 37", "-12: i is not 0 to how many items there are (also for n 0), or there are not so many.");
        for (int n = 0; n <= 3; n++) {
            range("minds", 1, 0, 5 - n, OUTSIDE, 0, 0, 0, n);
        }
        CHECK.sentence("Promise 38", "BAD: no such SHEET, sort, n above 40; -14.");
        range("sheet", 0, 0, 3, BAD, 0, 0, 5);
        range("sheet", 1, -1, 3, BAD, 0, 0, 5);
        sizesOfSheets();
        CHECK.sentence("Promise 39", "BAD: no such SHEET; -11; -12.");
        range("put", 0, 0, 3, BAD, 0, 0, 7);
        range("put", 1, 0, 4, OUTSIDE, 0, 0, 7);
        CHECK.sentence("Promise 40", "BAD: no such SHEET, sort; -11; -13; -12.");
        range("item", 0, 0, 3, BAD, 0, 0, 0);
        range("item", 1, 0, 3, BAD, 0, 0, 0);
        range("item", 2, 0, 4, OUTSIDE, 0, 0, 0);
    }

    private static void sizesOfSheets() throws Exception {
        LOOKED_AT.add("sheet 2");
        for (int sort = 0; sort < 4; sort++) {
            for (int n = 0; n <= 40; n++) {
                CHECK.due("sheet of " + n, answer("sheet", 2, n, new long[] {0, sort, 0}), 1);
            }
            int[] above = {41, 42, 256, 296, Integer.MAX_VALUE};
            for (int n : above) {
                CHECK.due("sheet of " + n, answer("sheet", 2, n, new long[] {0, sort, 0}), BAD);
            }
            int[] below = {-1, -2, -256, Integer.MIN_VALUE};
            for (int n : below) {
                CHECK.due("sheet of " + n, answer("sheet", 2, n, new long[] {0, sort, 0}), -14);
            }
        }
    }

    private static void shelves() throws Exception {
        CHECK.sentence("Promise 41", "BAD: no such SHELF, what, thing.");
        range("shelf", 0, 0, 3, BAD, 0, 0, 0);
        range("shelf", 1, 0, 2, BAD, 0, 0, 0);
        range("shelf", 2, 0, 2, BAD, 0, 0, 0);
        range("shelf", 2, 0, 3, BAD, 0, 1, 0);
        CHECK.sentence("Promise 42", "BAD: no such SHELF, as; -11; -13.");
        range("taken", 0, 0, 3, BAD, 0, 0);
        range("taken", 1, 0, 5, BAD, 0, 0);
        for (int as = 6; as < 10; as++) {
            CHECK.due("taken as " + as, answer("taken", 1, as, new long[] {0, 0}), BAD);
        }
        for (int as = 10; as < 14; as++) {
            CHECK.due("taken as " + as, answer("taken", 1, as, new long[] {0, 0}), -13);
        }
        CHECK.due("taken as 14", answer("taken", 1, 14, new long[] {0, 0}), BAD);
        CHECK.sentence("Promise 43", "0, and no TRACE then: no such SHELF, act, nothing, a row.");
        range("act", 0, 0, 3, 0, 0, 0, 50);
        range("act", 1, 0, 3, 0, 0, 0, 50);
        CHECK.sentence("Promise 44", "THE TRACE's i-th body. NONE.");
        range("trace", 0, 0, 1, NONE, 0);
    }

    /** Numbers that the document leaves open: any int, or any long. */
    private static final Set<String> OPEN = Set.of("feed 0", "seed 0", "alterRow 2", "put 2", "act 2");

    private static void everyNumberIsLookedAt() {
        CHECK.sentence("Terms", "BAD (-1) there is no such thing, or a number is not as told");
        for (Method m : SilenceCanal.class.getDeclaredMethods()) {
            for (int i = 0; Modifier.isPublic(m.getModifiers()) && i < m.getParameterCount(); i++) {
                String place = m.getName() + " " + i;
                CHECK.holds(place + " is looked at", LOOKED_AT.contains(place) != OPEN.contains(place));
            }
        }
    }
}
