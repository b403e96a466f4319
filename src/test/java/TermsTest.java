/**
 * The sentences of the document's section 'Terms', one by one, at the edges that they name. The words quoted are
 * looked up in the document; the values are worked out by hand.
 */
public final class TermsTest {
    private static final int MIN = Integer.MIN_VALUE, MAX = Integer.MAX_VALUE;
    private static final Doc DOC = new Doc();
    private static final Check CHECK = new Check("TermsTest", DOC);

    public static void main(String[] args) {
        use();
        answers();
        quotients();
        fractions();
        atFirst();
        eightBarges();
        kinds();
        landed();
        paces();
        spills();
        hourOfThoseThatHaveNotLanded();
        hourLockByLock();
        hourHeldLoads();
        hourLost();
        hourMeetings();
        hourMeetingsHeld();
        hourCounts();
        TriedTerms.all(CHECK);
        TextTerms.all(CHECK);
        ActTerms.all(CHECK);
        if (args.length > 0) {
            System.out.print(DOC.unquoted("Terms"));
        }
        CHECK.end();
    }

    private static void say(String section, String words) {
        CHECK.sentence(section, words);
    }

    private static void due(String what, long got, long want) {
        CHECK.due(what, got, want);
    }

    private static SilenceCanal told(String text) {
        return Check.told(text);
    }

    private static void use() {
        say("What it is", "An object is used for at most 512 calls after it has been made");
        SilenceCanal x = new SilenceCanal();
        for (int i = 0; i < 511; i++) {
            due("hours, call " + (i + 1), x.hours(60), 0);
        }
        due("the 512th call", x.state(0), 511 * 60);
        SilenceCanal y = told("barge at 0 for 9 load 40;");
        for (int i = 5; i < 511; i++) {
            due("bring, call " + (i + 1), y.bring(0, i & 1), 1 - (i & 1));
        }
        due("the 512th call", y.freight(0, 60), 40 - 2 * 9);
    }

    private static void answers() {
        say("Terms", "BAD (-1) there is no such thing, or a number is not as told; FULL (-2); NONE (-3)");
        due("BAD", SilenceCanal.BAD, -1);
        due("FULL", SilenceCanal.FULL, -2);
        due("NONE", SilenceCanal.NONE, -3);
        say("Terms", "-11 nothing where something is asked, -12 a place outside, -13 a thing of another sort or kind, "
            + "-14 a size below 0, -15 parted by 0.");
        SilenceCanal x = told("barge at 0 for 9;");
        due("nothing", x.item(0, 0, 0), -11);
        due("a size below 0", x.sheet(0, 0, -1), -14);
        x.sheet(0, 0, 2);
        due("a place outside", x.item(0, 0, 2), -12);
        due("another sort", x.item(0, 1, 0), -13);
        x.shelf(0, 0, 0);
        due("another kind", x.taken(0, 1), -13);
        due("parted by 0", x.act(0, 2, 1), -15);
        say("Terms", "Answers below 0, where not told otherwise, are refusals");
        due("told otherwise: z", x.seed(-1), 1);
        due("told otherwise: z", x.seed(1), -1);
        x.bring(0, 5);
        due("told otherwise: an act", x.act(0, 2, -15), -3);
        x.prove(0, 1);
        x.alterRow(0, 0, -9);
        due("told otherwise: what a row has", x.row(0, 0), -9);
        say("Terms", "Sets are told by bits.");
        SilenceCanal y = told("barge at 9 for 9;".repeat(7) + "barge at 0 for 9;");
        due("0 to 6", y.lock(9, 2), 127);
        due("the eighth", y.lock(0, 2), 128);
        due("landed", y.state(3), 127);
        due("locks 0 and 9", y.state(4), 1 | 512);
        due("stilled: 9", told("barge at 8 for 9;").hushedFor(1, 50), 512);
        due("stilled: 0", told("barge at 1 for 0;").hushedFor(1, 50), 1);
    }

    private static void quotients() {
        say("Terms", "Quotients are cut towards 0.");
        SilenceCanal x = told("barge at 2 for 9;barge at 0 for 9;barge at 0 for 9;");
        x.shelf(0, 0, 0);
        due("-7 by 2", x.act(0, 2, -7), -3);
        due("7 by 2", x.act(0, 2, 7), 3);
        due("-1 by 2", x.act(0, 2, -1), 0);
        due("the least by 2", x.act(0, 2, MIN), MIN / 2);
        x.shelf(0, 0, 2);
        due("7 by -2", x.act(0, 2, 7), -3);
        due("-7 by -2", x.act(0, 2, -7), 3);
        due("1 by -2", x.act(0, 2, 1), 0);
        x.shelf(0, 0, 1);
        due("the least by -1 wraps", x.act(0, 2, MIN), MIN);
    }

    private static long divisor(long a, long b) {
        return b == 0 ? a : divisor(b, a % b);
    }

    private static void fractions() {
        say("Terms", "A part of a fraction: 0 above the line, 1 below it, without a common divisor, below above 0");
        SilenceCanal x = new SilenceCanal();
        due("4 by 20 of a hundred", x.hope(4, 0), 4);
        due("4 by 20 of a hundred", x.hope(4, 1), 5);
        due("a whole number", x.hope(10, 0), 2);
        due("a whole number is by 1", x.hope(10, 1), 1);
        for (int law = 0; law <= 99; law += 9) {
            x.set(3, law);
            for (int k = 0; k <= 8; k++) {
                long above = x.odds(8, k, 0);
                long below = x.odds(8, k, 1);
                CHECK.holds("below above 0", below > 0);
                due("no common divisor, " + law + ", " + k, divisor(above, below), 1);
            }
        }
        say("Terms", "(0 is 0 by 1)");
        x.set(3, 0);
        due("odds above", x.odds(8, 8, 0), 0);
        due("odds below", x.odds(8, 8, 1), 1);
        due("hope above", x.hope(99, 0), 0);
        due("hope below", x.hope(99, 1), 1);
        x.set(3, 20);
        due("hope of none above", x.hope(0, 0), 0);
        due("hope of none below", x.hope(0, 1), 1);
    }

    private static void atFirst() {
        say("Terms 1", "LAWS: 0 ECHO (0 to 9; 3 at first), 1 HUSH (0 to 9; 2), 2 WIND (0 to 9; 1), 3 LAUGH (0 to 99 of a hundred; 20).");
        SilenceCanal x = new SilenceCanal();
        int[] first = {3, 2, 1, 20};
        int[] most = {9, 9, 9, 99};
        for (int law = 0; law < 4; law++) {
            due("law " + law + " at first", x.lawOf(law), first[law]);
            due("law " + law + " too high", x.set(law, most[law] + 1), -1);
            due("law " + law + " too low", x.set(law, -1), -1);
            due("law " + law + " highest", x.set(law, most[law]), first[law]);
            due("law " + law + " lowest", x.set(law, 0), most[law]);
        }
        say("Terms 1", "HOUR (0 at first).");
        due("hour", x.state(0), 0);
        say("Terms 1", "LOCKS 0 to 9 in a row, each with NOISE (0 to 9; 2 at first), LOST (what was spilt there so far; ");
        for (int lock = 0; lock < 10; lock++) {
            due("noise of " + lock, x.lock(lock, 0), 2);
            due("noise too high", x.noise(lock, 10), -1);
            due("noise too low", x.noise(lock, -1), -1);
            due("highest", x.noise(lock, 9), 2);
            due("lowest", x.noise(lock, 0), 9);
        }
        due("no lock 10", x.lock(10, 0), -1);
        due("no lock -1", x.lock(-1, 0), -1);
        say("Terms 1", "0 at first).");
        for (int lock = 0; lock < 10; lock++) {
            due("lost at " + lock, x.lock(lock, 1), 0);
        }
        say("Terms 1", "0 to 9999; ");
        lostUpTo(9999);
    }

    /** Eight come to lock 1, four of each sort: each spills 9 and meets the four others of the other sort, 45 in all. */
    private static void lostUpTo(int most) {
        SilenceCanal x = new SilenceCanal();
        x.sheet(0, 0, 8);
        for (int i = 0; i < 8; i++) {
            x.barge(0, 0, 0, 9);
            x.mind(i, 0, i & 1);
            x.put(0, i, 99);
        }
        x.noise(1, 9);
        x.set(0, 9);
        int sum = 0;
        for (int round = 0; round < 30; round++) {
            x.minds(0, 0, 0, 8);
            for (int i = 0; i < 8; i++) {
                x.bring(i, 0);
            }
            x.hours(1);
            sum += 8 * 45;
            due("lost behind " + (round + 1) + " rounds", x.lock(1, 1), Math.min(most, sum));
        }
    }

    private static void eightBarges() {
        say("Terms 1", "BARGES, 8 at most, numbered as they come");
        SilenceCanal x = new SilenceCanal();
        for (int i = 0; i < 8; i++) {
            due("many", x.many(0), i);
            due("its number", x.barge(0, i, 0, 9), i);
        }
        due("a ninth", x.barge(0, 8, 0, 9), -2);
        due("many", x.many(0), 8);
        for (int i = 0; i < 8; i++) {
            due("load of " + i, x.of(i, 1), i);
        }
        say("Terms 1", "with a LOAD (0 to 99), a SORT (0 or 1), AT a LOCK, BOUND for a LOCK.");
        due("least load", x.fill(0, 0), 0);
        due("greatest load", x.fill(0, 99), 0);
        due("too great", x.fill(0, 100), -1);
        due("too small", x.fill(0, -1), -1);
        due("sort 1", x.mind(0, 0, 1), 0);
        due("sort 2", x.mind(0, 0, 2), -1);
        due("sort -1", x.mind(0, 0, -1), -1);
        due("sort", x.of(0, 2), 1);
        due("at 9", x.bring(0, 9), 0);
        due("at 10", x.bring(0, 10), -1);
        due("for 0", x.send(0, 0), 9);
        due("for -1", x.send(0, -1), -1);
    }

    private static void kinds() {
        say("Terms 1", "each of a KIND: 0 barge; 1 mute, 2 lover, 5 dealer (under barge); 3 bishop (under mute); 4 miller (under lover);");
        int[][] under = {{0}, {0, 1}, {0, 2}, {0, 1, 3}, {0, 2, 4}, {0, 5}};
        SilenceCanal x = new SilenceCanal();
        for (int kind = 0; kind < 6; kind++) {
            x.barge(kind, 0, 0, 0);
            x.shelf(0, 0, kind);
            for (int as = 0; as < 6; as++) {
                int want = -13;
                for (int one : under[kind]) {
                    want = one == as ? kind : want;
                }
                due(kind + " taken for " + as, x.taken(0, as), want);
            }
        }
        due("no kind 6", x.barge(6, 0, 0, 0), -1);
        due("no kind -1", x.barge(-1, 0, 0, 0), -1);
    }

    private static void landed() {
        say("Terms 1", "It has LANDED, if it is AT that.");
        SilenceCanal x = told("barge at 9 for 9;barge at 0 for 0;barge at 0 for 9;barge at 8 for 9;");
        int[] want = {1, 1, 0, 0};
        for (int b = 0; b < 4; b++) {
            due("of " + b, x.of(b, 5), want[b]);
        }
        x.bring(2, 9);
        due("brought", x.of(2, 5), 1);
        x.send(3, 8);
        due("sent to where it is", x.of(3, 5), 1);
        x.send(0, 8);
        due("sent on", x.of(0, 5), 0);
        x.hours(1);
        due("come", x.of(0, 5), 1);
    }

    private static void paces() {
        SilenceCanal x = told("barge at 0 for 9;mute at 0 for 9;lover at 0 for 9;bishop at 0 for 9;miller at 0 for 9;dealer at 0 for 9;wind 0;");
        say("Terms 1", "PACE (how many LOCKS it goes in an HOUR): barge: 1. mute: as barge. bishop: as mute, and 1. lover: as barge, and 1.");
        int[] pace = {1, 1, 2, 2};
        for (int b = 0; b < 4; b++) {
            due("pace of " + b, x.does(b, 0), 1000 + pace[b]);
        }
        say("Terms 1", "miller: as lover, less 1 in odd HOURS.");
        due("in hour 0", x.does(4, 0), 1002);
        x.hours(1);
        due("went two", x.of(4, 3), 2);
        due("in hour 1", x.does(4, 0), 1001);
        x.hours(1);
        due("went one", x.of(4, 3), 3);
        due("in hour 2", x.does(4, 0), 1002);
        x.hours(1);
        due("went two", x.of(4, 3), 5);
        for (int b = 0; b < 4; b++) {
            due("behind three hours", x.of(b, 3), 3 * pace[b]);
        }
        say("Terms 1", "dealer: as barge, and WIND.");
        due("without wind", x.does(5, 0), 1001);
        due("one a hour", x.of(5, 3), 3);
        x.set(2, 9);
        due("with all wind", x.does(5, 0), 1010);
        x.set(2, 3);
        x.hours(1);
        due("with some", x.of(5, 3), 7);
    }

    private static void spillOf(SilenceCanal x, int barge, int lock, int noise, int want) {
        x.bring(barge, lock);
        x.noise(lock, noise);
        due("at noise " + noise, x.does(barge, 1), 1000 + want);
    }

    private static void spills() {
        SilenceCanal x = told("barge at 0 for 9;mute at 0 for 9;lover at 0 for 9;bishop at 0 for 9;miller at 0 for 9;dealer at 0 for 9;");
        say("Terms 1", "SPILLS (AT a LOCK to which it comes): barge: its NOISE.");
        spillOf(x, 0, 3, 0, 0);
        spillOf(x, 0, 9, 9, 9);
        say("Terms 1", "mute: half of as barge (cut).");
        int[] half = {0, 0, 1, 1, 2, 2, 3, 3, 4, 4};
        for (int noise = 0; noise < 10; noise++) {
            spillOf(x, 1, 5, noise, half[noise]);
        }
        say("Terms 1", "bishop: as mute, less HUSH (so it may be below 0: it gains).");
        spillOf(x, 3, 5, 9, 2);
        spillOf(x, 3, 5, 5, 0);
        spillOf(x, 3, 5, 3, -1);
        x.set(1, 9);
        spillOf(x, 3, 5, 0, -9);
        x.set(1, 0);
        spillOf(x, 3, 5, 1, 0);
        say("Terms 1", "lover: as barge, less 1.");
        spillOf(x, 2, 5, 0, -1);
        spillOf(x, 2, 5, 1, 0);
        spillOf(x, 2, 5, 9, 8);
        say("Terms 1", "miller: as lover, and a tenth of LOAD (cut).");
        int[] loads = {0, 9, 10, 19, 90, 99};
        for (int load : loads) {
            x.fill(4, load);
            spillOf(x, 4, 5, 0, load / 10 - 1);
            spillOf(x, 4, 5, 9, load / 10 + 8);
        }
        say("Terms 1", "dealer: as barge, twice that, in HOURS whose rest by 3 is 0; else 0.");
        for (int hour = 0; hour < 7; hour++) {
            x.bring(5, 0);
            spillOf(x, 5, 5, 9, hour % 3 == 0 ? 18 : 0);
            spillOf(x, 5, 5, 0, 0);
            x.hours(1);
        }
        lateHours();
    }

    /** HOUR has no last: what hangs on it goes on so behind the 60 that one call lets pass. */
    private static void lateHours() {
        SilenceCanal x = told("dealer at 5 for 5;miller at 5 for 5;noise 5 is 9;");
        for (int hour = 60; hour <= 24000; hour += 60) {
            x.hours(60);
        }
        for (int hour = 24000; hour < 24006; hour++) {
            due("a dealer spills in hour " + hour, x.does(0, 1), hour % 3 == 0 ? 1018 : 1000);
            due("a miller goes in hour " + hour, x.does(1, 0), hour % 2 == 0 ? 1002 : 1001);
            x.hours(1);
        }
        SilenceCanal y = told("barge at 1 for 1 other;barge at 3 for 3;");
        y.hours(60);
        y.send(0, 3);
        y.send(1, 1);
        due("noise and echo are what they were", y.hours(1), 100 - 2 * 2 - 2 * 3);
    }

    private static void hourOfThoseThatHaveNotLanded() {
        say("Terms 1", "AN HOUR: each of BARGES that hasn't LANDED, by numbers:");
        SilenceCanal x = told("bishop at 3 for 3;barge at 3 for 3;miller at 3 for 3 other;lover at 4 for 4;");
        due("none goes", x.hours(60), 200);
        due("nothing is lost", x.state(2), 0);
        due("at 3 still", x.lock(3, 2), 7);
        // By numbers: 0 comes to 1 while the other still is at 0; the other comes to 1 after it and meets it there.
        SilenceCanal y = told("barge at 0 for 9;barge at 0 for 9 other;noise 1 is 0;");
        due("met once, at 1", y.hours(1), 94);
        // 1 comes to 5 when 0 has left it: they don't meet. The other way round they do.
        y = told("barge at 5 for 9;barge at 4 for 9 other;noise 5 is 0;noise 6 is 0;");
        due("it has gone", y.hours(1), 100);
        y = told("barge at 4 for 9 other;barge at 5 for 9;noise 5 is 0;noise 6 is 0;");
        due("it has not gone yet", y.hours(1), 94);
    }

    private static void hourLockByLock() {
        say("Terms 1", "(1) it goes, LOCK by LOCK, towards that for which it is BOUND, as many as PACE tells, not beyond it:");
        SilenceCanal x = told("barge at 0 for 9;barge at 9 for 0;lover at 8 for 9;lover at 1 for 0;dealer at 0 for 3;dealer at 9 for 8;wind 9;");
        x.hours(1);
        int[] at = {1, 8, 9, 0, 3, 8};
        for (int b = 0; b < 6; b++) {
            due("of " + b, x.of(b, 3), at[b]);
        }
        say("Terms 1", "AT each to which it comes LOAD is what it SPILLS there less");
        SilenceCanal y = told("dealer at 2 for 7;wind 9;noise 2 is 9;noise 3 is 1;noise 4 is 2;noise 5 is 3;noise 6 is 0;noise 7 is 4;noise 8 is 9;");
        due("1, 2, 3, 0 and 4, twice; not where it was, not beyond", y.hours(1), 50 - 2 * 10);
        int[] lost = {0, 0, 0, 2, 4, 6, 0, 8, 0, 0};
        for (int lock = 0; lock < 10; lock++) {
            due("lost at " + lock, y.lock(lock, 1), lost[lock]);
        }
        // A miller's tenth is of what it has when it comes: 60 less 1 + 6, 53 less 1 + 5.
        SilenceCanal z = told("miller at 0 for 9 load 60;");
        due("a tenth of what it has yet", z.hours(1), 47);
    }

    private static void hourHeldLoads() {
        say("Terms 1", "(held to 0 to 99)");
        due("5 less 9", told("barge at 0 for 9 load 5;noise 1 is 9;").hours(1), 0);
        due("9 less 9", told("barge at 0 for 9 load 9;noise 1 is 9;").hours(1), 0);
        due("10 less 9", told("barge at 0 for 9 load 10;noise 1 is 9;").hours(1), 1);
        due("0 less 2", told("barge at 0 for 9 load 0;").hours(1), 0);
        due("95 and 9", told("bishop at 0 for 1 load 95;noise 1 is 0;hush 9;").hours(1), 99);
        due("90 and 9", told("bishop at 0 for 1 load 90;noise 1 is 0;hush 9;").hours(1), 99);
        due("89 and 9", told("bishop at 0 for 1 load 89;noise 1 is 0;hush 9;").hours(1), 98);
        due("99 and 1", told("lover at 0 for 1 load 99;noise 1 is 0;").hours(1), 99);
        // Held at each lock: 99 stays 99 at the first, so all of 9 is gone behind the second, not 8.
        due("held lock by lock", told("lover at 0 for 2 load 99;noise 1 is 0;noise 2 is 9;").hours(1), 91);
        due("held lock by lock", told("lover at 0 for 2 load 3;noise 1 is 9;noise 2 is 0;").hours(1), 1);
    }

    private static void hourLost() {
        say("Terms 1", "of the LOCK LOST is as much more as LOAD is less then (if it is).");
        SilenceCanal x = told("barge at 0 for 2 load 12;noise 1 is 9;noise 2 is 9;");
        x.hours(2);
        due("9", x.lock(1, 1), 9);
        due("only 3 were left", x.lock(2, 1), 3);
        SilenceCanal y = told("barge at 0 for 1 load 40;bishop at 0 for 1 load 40;lover at 0 for 1;noise 1 is 0;hush 9;");
        due("two gain", y.hours(1), 40 + 49 + 51);
        due("a gain is not lost, nor found", y.lock(1, 1), 0);
        y.noise(1, 7);
        y.bring(0, 0);
        y.hours(1);
        due("7", y.lock(1, 1), 7);
        y.noise(1, 0);
        y.bring(1, 0);
        y.hours(1);
        due("a gain takes nothing off", y.lock(1, 1), 7);
    }

    private static void hourMeetings() {
        say("Terms 1", "(2) Then (also if it has LANDED by that)");
        SilenceCanal x = told("barge at 1 for 2;barge at 2 for 9 other;noise 2 is 0;noise 3 is 0;");
        due("0 lands at 2 and meets 1 there", x.hours(1), 94);
        SilenceCanal by = told("lover at 0 for 9;barge at 1 for 0 other;");
        due("behind all of (1): 0 only goes by 1", by.hours(1), 96);
        due("at 1 it has spilt 1, and there's no echo", by.lock(1, 1), 1);
        due("at 2 it has spilt 1", by.lock(2, 1), 1);
        due("1 has spilt 2", by.lock(0, 1), 2);
        due("but one that had landed before doesn't go through (2)", told("barge at 2 for 2;barge at 2 for 9 other;noise 3 is 0;").hours(1), 100);
        say("Terms 1", "of each other one AT its LOCK, by numbers, that is of the other SORT and hasn't LANDED");
        due("of its own sort", told("barge at 1 for 3;barge at 3 for 1;noise 2 is 0;").hours(1), 100);
        due("of its own sort, both other", told("barge at 1 for 3 other;barge at 3 for 1 other;noise 2 is 0;").hours(1), 100);
        due("has landed", told("barge at 1 for 3 other;barge at 2 for 2;noise 2 is 0;").hours(1), 100);
        due("at another lock", told("barge at 1 for 3 other;barge at 5 for 4;noise 2 is 0;noise 4 is 0;").hours(1), 100);
        // Three of the other sort stand at 2 when 0 comes, one of them landed; then each goes on to 3 alone or meets none.
        SilenceCanal y = told("barge at 1 for 9 other;barge at 2 for 9;barge at 2 for 2;barge at 2 for 9;noise 2 is 0;noise 3 is 0;");
        due("two meetings", y.hours(1), 200 - 4 * 3);
        due("0 in both", y.of(0, 1), 44);
        due("1 in one", y.of(1, 1), 47);
        due("2 has landed", y.of(2, 1), 50);
        due("3 in one", y.of(3, 1), 47);
        say("Terms 1", "ECHO of both is spilt there");
        due("at 2", y.lock(2, 1), 12);
        due("only there", y.state(2), 12);
        SilenceCanal z = told("barge at 1 for 3 other;barge at 3 for 1;noise 2 is 0;echo 0;");
        due("no echo", z.hours(1), 100);
        z = told("barge at 1 for 3 other;barge at 3 for 1;noise 2 is 0;echo 9;");
        due("most echo", z.hours(1), 82);
    }

    private static void hourMeetingsHeld() {
        say("Terms 1", "(LOAD of each is ECHO less, 0 at least; LOST is as much more)");
        SilenceCanal x = told("barge at 1 for 3 load 2 other;barge at 3 for 1 load 9;noise 2 is 0;echo 9;");
        due("0 and 0", x.hours(1), 0);
        due("2 and 9", x.lock(2, 1), 11);
        x = told("barge at 1 for 3 load 0 other;barge at 3 for 1 load 10;noise 2 is 0;echo 9;");
        due("0 and 1", x.hours(1), 1);
        due("0 and 9", x.lock(2, 1), 9);
        // By numbers: what 0 has yet falls 4 by 4; the third meeting takes 2 of it, and 4 of the other one.
        x = told("barge at 1 for 9 load 10 other;" + "barge at 2 for 9 load 20;".repeat(3) + "noise 2 is 0;noise 3 is 0;echo 4;");
        due("0 and three times 16", x.hours(1), 48);
        due("10 and 12", x.lock(2, 1), 22);
    }

    private static void hourCounts() {
        say("Terms 1", "HOUR is 1 more.");
        SilenceCanal x = new SilenceCanal();
        x.hours(1);
        due("without barges", x.state(0), 1);
        x.barge(0, 5, 5, 5);
        x.hours(60);
        due("though all have landed", x.state(0), 61);
        x.hour();
        due("by draws too", x.state(0), 62);
        // HOUR is more at the end alone: in hour 0 both dealers spill, and both millers go two.
        SilenceCanal y = told("dealer at 0 for 1;miller at 0 for 9 load 0;dealer at 0 for 1;miller at 0 for 9 load 0;");
        y.hours(1);
        due("the first", y.of(0, 1), 46);
        due("the last", y.of(2, 1), 46);
        due("the last went two", y.of(3, 3), 2);
    }
}
