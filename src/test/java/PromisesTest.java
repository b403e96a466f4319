/** Each promise of the document, by values worked out by hand from its words: plain ones, edges, wrong inputs. */
public final class PromisesTest {
    private static final int MIN = Integer.MIN_VALUE, MAX = Integer.MAX_VALUE;
    private static final Check CHECK = new Check("PromisesTest");

    private static void due(int promise, String what, long got, long want) {
        CHECK.due("promise " + promise + ": " + what, got, want);
    }

    public static void main(String[] args) {
        newObject();
        feeding();
        readingOrdinaryTexts();
        readingFaults();
        readingChangesAllOrNothing();
        laws();
        bargesAndTheirNumbers();
        paceAndSpills();
        altering();
        locks();
        hoursOfOneBarge();
        hoursOfMeetings();
        lostIsHeld();
        draws();
        states();
        triedHours();
        choices();
        fitting();
        oddsAndHope();
        rowsAndReader();
        mindsFromSheets();
        sheetsOfSorts();
        shelvesAndKinds();
        actsAndTrace();
        counts();
        keeping();
        triedChangesNothing();
        CHECK.end();
    }

    private static SilenceCanal told(String text) {
        return Check.told(text);
    }

    private static int answerTo(String text) {
        return Check.answerTo(text);
    }

    private static void newObject() {
        SilenceCanal x = new SilenceCanal();
        due(1, "barges", x.many(0), 0);
        due(1, "no such one", x.of(0, 0), -1);
        due(1, "nothing kept", x.again(), -3);
        int[] first = {3, 2, 1, 20};
        for (int law = 0; law < 4; law++) {
            due(1, "law " + law, x.lawOf(law), first[law]);
        }
        for (int lock = 0; lock < 10; lock++) {
            due(1, "noise of " + lock, x.lock(lock, 0), 2);
            due(1, "lost at " + lock, x.lock(lock, 1), 0);
        }
        due(1, "hour", x.state(0), 0);
        due(1, "loudest", x.state(5), 10);
        due(1, "z", x.seed(1), 1);
        for (int what = 0; what < 7; what++) {
            due(1, "many " + what, x.many(what), 0);
        }
        due(1, "rows", x.row(0, 0), -9);
        due(1, "trace", x.trace(0), -3);
        for (int i = 0; i < 4; i++) {
            due(1, "sheet " + i, x.item(i, 0, 0), -11);
            due(1, "shelf " + i, x.taken(i, 0), -11);
        }
        due(1, "BAD", SilenceCanal.BAD, -1);
        due(1, "FULL", SilenceCanal.FULL, -2);
        due(1, "NONE", SilenceCanal.NONE, -3);
    }

    private static void feeding() {
        SilenceCanal x = new SilenceCanal();
        due(2, "none", x.feed(1, 0), -1);
        due(2, "nine", x.feed(1, 9), -1);
        due(2, "below", x.feed(1, MIN), -1);
        due(2, "far above", x.feed(1, MAX), -1);
        due(2, "one", x.feed(32, 1), 1);
        for (int i = 1; i < 25; i++) {
            due(2, "eight more", x.feed(0x2020202020202020L, 8), 1 + 8 * i);
        }
        due(2, "beyond 200", x.feed(0x2020202020202020L, 8), -2);
        due(2, "bad before full", x.feed(0, 9), -1);
        due(2, "nothing came", x.many(5), 193);
        due(2, "just 200", x.feed(0x20202020202020L, 7), 200);
        due(2, "one too many", x.feed(32, 1), -2);
        due(2, "200 blanks", x.canal(), 0);
        due(2, "used up", x.many(5), 0);
        x = new SilenceCanal();
        x.feed(';' | (long) 'A' << 8, 1);
        due(2, "only the lowest byte came", x.many(5), 1);
        x.feed('B', 1);
        due(2, "the lowest first", x.canal(), -100);
        x.feed(' ' | (long) 'A' << 8, 2);
        due(2, "and then the next", x.canal(), -101);
        x.feed(0xff00000000000020L, 8);
        due(2, "a byte above 127", x.canal(), -101);
    }

    private static void readingOrdinaryTexts() {
        due(3, "an empty tape", answerTo(""), 0);
        due(3, "blanks", answerTo("   "), 0);
        SilenceCanal x = told("barge at 1 for 2;mute at 3 for 4 load 7;lover at 5 for 6 other;"
            + "bishop at 7 for 8 load 99 other;miller at 9 for 0 load 0;dealer at 0 for 0;");
        int[][] want = {{0, 50, 0, 1, 2}, {1, 7, 0, 3, 4}, {2, 50, 1, 5, 6}, {3, 99, 1, 7, 8}, {4, 0, 0, 9, 0}, {5, 50, 0, 0, 0}};
        due(3, "six", x.many(0), 6);
        for (int b = 0; b < want.length; b++) {
            for (int what = 0; what < 5; what++) {
                due(3, "of " + b + " " + what, x.of(b, what), want[b][what]);
            }
        }
        x = told("noise 3 is 9;echo 9;hush 8;wind 7;laugh 99;noise 3 is 4 ; echo 1 ;");
        due(3, "the later noise", x.lock(3, 0), 4);
        due(3, "the later echo", x.lawOf(0), 1);
        due(3, "hush", x.lawOf(1), 8);
        due(3, "wind", x.lawOf(2), 7);
        due(3, "laugh", x.lawOf(3), 99);
        due(3, "an untold noise", x.lock(2, 0), 2);
        due(3, "names and numbers part without blanks", answerTo("barge at0for009load099other;"), 1);
        due(3, "many blanks", answerTo("  barge   at 0   for 9   ;  "), 1);
    }

    private static void readingFaults() {
        due(3, "an unknown name", answerTo("barges at 0 for 9;"), -100);
        due(3, "behind blanks", answerTo("  boat"), -102);
        due(3, "a number first", answerTo("3"), -100);
        due(3, "a lone mark", answerTo(";"), -100);
        due(3, "two marks", answerTo("echo 3;;"), -107);
        due(3, "a great letter", answerTo("Barge"), -100);
        due(3, "a tab", answerTo("echo\t3;"), -104);
        due(3, "a zero byte", answerTo("echo 3;\0"), -107);
        due(3, "the end behind a name", answerTo("barge"), -105);
        due(3, "the end behind blanks", answerTo("barge  "), -107);
        due(3, "no mark at the end", answerTo("echo 3"), -106);
        due(3, "names in one", answerTo("bargeat 0 for 9;"), -100);
        due(3, "another first letter", answerTo("large at 0 for 9;"), -100);
        due(3, "z is a letter", answerTo("echo 3;echoz 3;"), -107);
        due(3, "at missing", answerTo("barge 0 for 9;"), -106);
        due(3, "a lock too high", answerTo("barge at 10 for 9;"), -109);
        due(3, "bound too high", answerTo("barge at 0 for 10;"), -115);
        due(3, "four digits", answerTo("barge at 0000 for 1;"), -109);
        due(3, "load too high", answerTo("barge at 0 for 9 load 100;"), -122);
        due(3, "load of four digits", answerTo("barge at 0 for 9 load 0009;"), -122);
        due(3, "load without one", answerTo("barge at 0 for 9 load;"), -121);
        due(3, "other before load", answerTo("barge at 0 for 9 other load 5;"), -123);
        due(3, "other twice", answerTo("barge at 0 for 9 other other;"), -123);
        due(3, "load twice", answerTo("barge at 0 for 9 load 5 load 6;"), -124);
        due(3, "a name for a number", answerTo("echo nine;"), -105);
        due(3, "echo 10", answerTo("echo 10;"), -105);
        due(3, "hush 10", answerTo("hush 10;"), -105);
        due(3, "wind 10", answerTo("wind 10;"), -105);
        due(3, "laugh 100", answerTo("laugh 100;"), -106);
        due(3, "laugh 99", answerTo("laugh 99;"), 0);
        due(3, "noise of lock 10", answerTo("noise 10 is 1;"), -106);
        due(3, "noise 10", answerTo("noise 1 is 10;"), -111);
        due(3, "is missing", answerTo("noise 1 1;"), -108);
        due(3, "a sign", answerTo("echo -1;"), -105);
        String eight = "mute at 1 for 2;".repeat(8);
        due(3, "eight", answerTo(eight), 8);
        due(3, "the name of a ninth", answerTo(eight + " mute at x"), -229);
        due(3, "laws behind eight", answerTo(eight + "echo 3;"), 8);
    }

    private static void readingChangesAllOrNothing() {
        SilenceCanal x = new SilenceCanal();
        x.barge(0, 40, 0, 9);
        x.seed(77);
        x.set(0, 5);
        x.prove(0, 3);
        x.hours(1);
        x.sheet(0, 0, 2);
        x.shelf(0, 0, 0);
        x.act(0, 0, 1);
        x.keep();
        Check.feedText(x, "mute at 1 for 2; echo 1; wrong");
        due(3, "a fault", x.canal(), -125);
        due(3, "used up all the same", x.many(5), 0);
        due(3, "barges stay", x.of(0, 0), 0);
        due(3, "laws stay", x.lawOf(0), 5);
        due(3, "rows stay", x.many(4), 3);
        due(3, "the hour stays", x.state(0), 1);
        Check.feedText(x, "mute at 1 for 2;");
        due(3, "one", x.canal(), 1);
        due(3, "no rows then", x.many(4), 0);
        due(3, "echo as at first", x.lawOf(0), 3);
        due(3, "hour as at first", x.state(0), 0);
        due(3, "lost as at first", x.state(2), 0);
        due(3, "trace stays", x.many(6), 1);
        due(3, "sheets stay", x.item(0, 0, 1), 0);
        due(3, "shelves stay", x.taken(0, 1), 0);
        due(3, "z stays", x.seed(1), 77);
        due(3, "what is kept stays", x.again(), 1);
        due(3, "as it was kept", x.state(0), 1);
        x = new SilenceCanal();
        x.seed(5);
        x.canal();
        due(3, "z stays, though nothing was tried", x.seed(1), 5);
    }

    private static void laws() {
        SilenceCanal x = new SilenceCanal();
        int[] most = {9, 9, 9, 99};
        int[] first = {3, 2, 1, 20};
        for (int law = 0; law < 4; law++) {
            due(4, "too high", x.set(law, most[law] + 1), -1);
            due(4, "below 0", x.set(law, -1), -1);
            due(5, "unchanged", x.lawOf(law), first[law]);
            due(4, "highest", x.set(law, most[law]), first[law]);
            due(5, "highest", x.lawOf(law), most[law]);
            due(4, "lowest", x.set(law, 0), most[law]);
            due(5, "lowest", x.lawOf(law), 0);
        }
        due(4, "no such law", x.set(4, 1), -1);
        due(4, "no such law", x.set(-1, 1), -1);
        due(5, "no such law", x.lawOf(4), -1);
        due(5, "no such law", x.lawOf(MIN), -1);
    }

    private static void bargesAndTheirNumbers() {
        SilenceCanal x = new SilenceCanal();
        int[][] bad = {{-1, 0, 0, 0}, {6, 0, 0, 0}, {0, -1, 0, 0}, {0, 100, 0, 0}, {0, 0, -1, 0}, {0, 0, 10, 0}, {0, 0, 0, -1}, {0, 0, 0, 10}};
        for (int[] b : bad) {
            due(6, "bad", x.barge(b[0], b[1], b[2], b[3]), -1);
        }
        due(6, "none came", x.many(0), 0);
        for (int i = 0; i < 8; i++) {
            due(6, "number", x.barge(i % 6, 99 - i, i, 9 - i), i);
        }
        due(6, "a ninth", x.barge(0, 0, 0, 0), -2);
        due(6, "bad before full", x.barge(6, 0, 0, 0), -1);
        for (int i = 0; i < 8; i++) {
            due(7, "kind", x.of(i, 0), i % 6);
            due(7, "load", x.of(i, 1), 99 - i);
            due(7, "sort", x.of(i, 2), 0);
            due(7, "at", x.of(i, 3), i);
            due(7, "bound", x.of(i, 4), 9 - i);
            due(7, "landed", x.of(i, 5), 0);
        }
        x.send(3, 3);
        due(7, "landed", x.of(3, 5), 1);
        due(7, "no such what", x.of(0, 6), -1);
        due(7, "no such what", x.of(0, -1), -1);
        due(7, "no such one", x.of(8, 0), -1);
        due(7, "no such one", x.of(-1, 0), -1);
        due(7, "no such one", x.of(MIN, 0), -1);
    }

    private static void paceAndSpills() {
        SilenceCanal x = told("barge at 5 for 9;mute at 5 for 9;lover at 5 for 9;bishop at 5 for 9;miller at 5 for 9 load 39;"
            + "dealer at 5 for 9;noise 5 is 7;hush 5;wind 4;");
        int[] pace = {1, 1, 2, 2, 2, 5};
        int[] spills = {7, 3, 6, -2, 9, 14};
        for (int b = 0; b < 6; b++) {
            due(8, "pace of " + b, x.does(b, 0), 1000 + pace[b]);
            due(8, "spill of " + b, x.does(b, 1), 1000 + spills[b]);
        }
        due(8, "no such what", x.does(0, 2), -1);
        due(8, "no such what", x.does(0, -1), -1);
        due(8, "no such one", x.does(6, 0), -1);
        due(8, "no such one", x.does(-1, 1), -1);
        SilenceCanal y = told("miller at 0 for 0;dealer at 0 for 0;lover at 0 for 0;noise 0 is 0;");
        due(8, "a lover gains", y.does(2, 1), 999);
        y.noise(0, 4);
        for (int hour = 0; hour < 7; hour++) {
            due(8, "miller in hour " + hour, y.does(0, 0), hour % 2 == 0 ? 1002 : 1001);
            due(8, "dealer in hour " + hour, y.does(1, 1), hour % 3 == 0 ? 1008 : 1000);
            y.hours(1);
        }
    }

    private static void altering() {
        SilenceCanal x = new SilenceCanal();
        x.barge(2, 30, 4, 5);
        due(9, "was a lover", x.mind(0, 5, 1), 2);
        due(9, "kind", x.of(0, 0), 5);
        due(9, "sort", x.of(0, 2), 1);
        due(9, "no such kind", x.mind(0, 6, 1), -1);
        due(9, "no such kind", x.mind(0, -1, 1), -1);
        due(9, "no such sort", x.mind(0, 1, 2), -1);
        due(9, "no such sort", x.mind(0, 1, -1), -1);
        due(9, "no such one", x.mind(1, 1, 0), -1);
        due(9, "unchanged", x.of(0, 0), 5);
        due(10, "was 30", x.fill(0, 99), 30);
        due(10, "was 99", x.fill(0, 0), 99);
        due(10, "too much", x.fill(0, 100), -1);
        due(10, "below 0", x.fill(0, -1), -1);
        due(10, "no such one", x.fill(1, 5), -1);
        due(10, "unchanged", x.of(0, 1), 0);
        due(11, "was at 4", x.bring(0, 9), 4);
        due(11, "no lock", x.bring(0, 10), -1);
        due(11, "no lock", x.bring(0, -1), -1);
        due(11, "no such one", x.bring(1, 0), -1);
        due(11, "is at 9", x.of(0, 3), 9);
        due(12, "was bound for 5", x.send(0, 9), 5);
        due(12, "has landed", x.of(0, 5), 1);
        due(12, "no lock", x.send(0, 10), -1);
        due(12, "no lock", x.send(0, -1), -1);
        due(12, "no such one", x.send(-1, 0), -1);
        due(12, "bound for 9", x.of(0, 4), 9);
    }

    private static void locks() {
        SilenceCanal x = new SilenceCanal();
        due(13, "was 2", x.noise(9, 9), 2);
        due(13, "was 9", x.noise(9, 0), 9);
        due(13, "too loud", x.noise(9, 10), -1);
        due(13, "below 0", x.noise(9, -1), -1);
        due(13, "no lock", x.noise(10, 1), -1);
        due(13, "no lock", x.noise(-1, 1), -1);
        due(14, "noise", x.lock(9, 0), 0);
        x.barge(0, 50, 3, 9);
        x.barge(0, 50, 4, 9);
        x.barge(0, 50, 3, 3);
        due(14, "at 3", x.lock(3, 2), 5);
        due(14, "at 4", x.lock(4, 2), 2);
        due(14, "at 5", x.lock(5, 2), 0);
        x.hours(1);
        due(14, "lost at 4", x.lock(4, 1), 2);
        due(14, "no what", x.lock(3, 3), -1);
        due(14, "no what", x.lock(3, -1), -1);
        due(14, "no lock", x.lock(10, 0), -1);
        due(14, "no lock", x.lock(-1, 0), -1);
    }

    private static void hoursOfOneBarge() {
        SilenceCanal x = told("lover at 2 for 7 load 20;noise 3 is 4;noise 4 is 5;noise 5 is 0;noise 6 is 9;noise 7 is 9;");
        due(15, "3 and 4: 3, 4 less", x.hours(1), 13);
        due(15, "5 gains 1, 6 takes 8", x.hours(1), 6);
        due(15, "7, not beyond: only 6 can go", x.hours(1), 0);
        due(15, "lost what it had", x.lock(7, 1), 6);
        due(15, "a gain is no loss", x.lock(5, 1), 0);
        due(15, "landed", x.of(0, 3), 7);
        due(15, "hours", x.state(0), 3);
        due(15, "sixty", x.hours(60), 0);
        due(15, "hours", x.state(0), 63);
        due(15, "none", x.hours(0), -1);
        due(15, "too many", x.hours(61), -1);
        due(15, "below", x.hours(MIN), -1);
        x = told("bishop at 9 for 0 load 98;hush 9;noise 8 is 0;");
        due(15, "held to 99", x.hours(1), 99);
        x = told("miller at 0 for 9 load 57;noise 1 is 3;noise 2 is 3;noise 3 is 3;");
        due(15, "2 and 5, then 2 and 5", x.hours(1), 43);
        due(15, "in an odd hour but one lock: 2 and 4", x.hours(1), 37);
        due(15, "at 3", x.of(0, 3), 3);
        x = told("dealer at 9 for 0 load 90;wind 9;noise 4 is 9;");
        due(15, "4 at eight, 18 at one", x.hours(1), 40);
        due(15, "all the way, not beyond", x.of(0, 3), 0);
        x = told("dealer at 9 for 0 load 90;wind 0;");
        x.hours(9);
        due(15, "spilt in hours 0, 3, 6", x.of(0, 1), 78);
        due(15, "at 8", x.lock(8, 1), 4);
        due(15, "at 7", x.lock(7, 1), 0);
        due(15, "at 5", x.lock(5, 1), 4);
        x = told("mute at 0 for 1 load 9;noise 1 is 5;");
        due(15, "half of 5, cut", x.hours(1), 7);
        x = told("barge at 0 for 3;");
        x.hours(50);
        due(15, "all hours count, also when all have landed", x.state(0), 50);
    }

    private static void hoursOfMeetings() {
        // 0 comes to 2 and lands there; 1 stands there, not landed, of the other sort, and goes on after.
        SilenceCanal x = told("barge at 1 for 2;barge at 2 for 9 other;noise 2 is 0;noise 3 is 0;echo 4;");
        due(15, "also the landed one meets", x.hours(1), 92);
        due(15, "lost by both", x.lock(2, 1), 8);
        // the other way round: 0 goes first, 1 comes to 2 when 0 has gone.
        x = told("barge at 2 for 9 other;barge at 1 for 2;noise 2 is 0;noise 3 is 0;echo 4;");
        due(15, "it has gone", x.hours(1), 100);
        // one that has landed is not met by others
        x = told("barge at 2 for 2 other;barge at 1 for 3;noise 2 is 0;echo 4;");
        due(15, "the landed is left alone", x.hours(1), 100);
        // same sort: nothing
        x = told("barge at 1 for 3;barge at 2 for 2;barge at 3 for 1;noise 2 is 0;echo 4;");
        due(15, "one sort", x.hours(1), 150);
        // both come to 2: met when 1 comes; loads held to 0
        x = told("barge at 1 for 3 load 3;barge at 3 for 1 load 50 other;noise 2 is 0;echo 9;");
        due(15, "0 at least", x.hours(1), 41);
        due(15, "lost as much as loads are less", x.lock(2, 1), 12);
        // each meeting takes ECHO again
        x = told("barge at 0 for 9 other;barge at 2 for 0;barge at 2 for 0;noise 1 is 0;echo 5;");
        due(15, "twice", x.hours(1), 130);
        due(15, "of the first", x.of(0, 1), 40);
        due(15, "of the second", x.of(1, 1), 45);
        due(15, "of the third", x.of(2, 1), 45);
        // at one lock now: each that isn't landed goes first, so they meet where they come to
        x = told("barge at 0 for 9 other;barge at 0 for 9;noise 1 is 0;echo 5;");
        due(15, "at 1", x.hours(1), 90);
        due(15, "not at 0", x.lock(0, 1), 0);
        due(15, "at 1", x.lock(1, 1), 10);
        x.set(0, 0);
        x.noise(2, 0);
        due(15, "no echo", x.hours(1), 90);
    }

    private static void lostIsHeld() {
        SilenceCanal x = new SilenceCanal();
        x.sheet(0, 0, 8);
        for (int i = 0; i < 8; i++) {
            x.barge(0, 99, 0, 9);
            x.mind(i, 0, i % 2);
            x.put(0, i, 99);
        }
        x.noise(1, 9);
        x.set(0, 9);
        // Each of the eight spills 9 and meets four of the other sort: 45 of each, at lock 1.
        for (int round = 1; round <= 30; round++) {
            x.minds(0, 0, 0, 8);
            for (int i = 0; i < 8; i++) {
                x.bring(i, 0);
            }
            due(15, "left", x.hours(1), 8 * 54);
            due(14, "lost in " + round, x.lock(1, 1), Math.min(9999, 360 * round));
        }
        due(19, "all lost", x.state(2), 9999);
        due(19, "loudest", x.state(5), 1);
    }

    private static void draws() {
        // z 1: 1103527590 drawn 16838; then 2524885223 drawn 38526; then 662824084 drawn 10113.
        SilenceCanal x = told("barge at 0 for 0 load 51;barge at 0 for 0 load 31;laugh 27;");
        due(17, "16838 leaves 0 by 2, 38526 leaves 26 by 100", x.hour(), 56);
        due(17, "half, cut", x.of(0, 1), 25);
        due(17, "nothing spilt by that", x.state(2), 0);
        due(17, "an hour", x.state(0), 1);
        due(16, "z behind two draws", x.seed(1), (int) 2524885223L);
        x.set(3, 26);
        due(17, "not below 26", x.hour(), 56);
        x.seed(1103527590);
        x.set(3, 99);
        due(17, "38526 leaves 0, 10113 leaves 13", x.hour(), 43);
        due(16, "z", x.seed(-5), 662824084);
        due(16, "any int", x.seed(MIN), -5);
        due(16, "any int", x.seed(1), MIN);
        SilenceCanal empty = new SilenceCanal();
        due(17, "none", empty.hour(), 0);
        due(17, "an hour all the same", empty.state(0), 1);
        due(16, "no draws without barges", empty.seed(1), 1);
        due(18, "none", empty.spoilt(30), 0);

        // draws from z 1, two by two, rest of the second by 100: 26, 44, ...
        SilenceCanal y = told("barge at 0 for 0 load 40;laugh 27;");
        int z = 1;
        int many = 0;
        for (int n = 1; n <= 30; n++) {
            z = z * 1103515245 + 12345;
            z = z * 1103515245 + 12345;
            many += (z >>> 16) % 100 < 27 ? 1 : 0;
            due(18, "of " + n, y.spoilt(n), many);
        }
        due(18, "nothing changes", y.of(0, 1), 40);
        due(18, "z neither", y.seed(1), 1);
        due(18, "the hour neither", y.state(0), 0);
        due(18, "none", y.spoilt(0), -1);
        due(18, "too many", y.spoilt(31), -1);
        y.fill(0, 0);
        due(18, "nothing to spoil", y.spoilt(30), 0);
        y.fill(0, 40);
        y.set(3, 0);
        due(18, "no laughs", y.spoilt(30), 0);
        // Spilling alone is no spoiling: what is compared is the cargo behind one hour.
        y = told("barge at 2 for 0 load 40;barge at 3 for 0 load 40;noise 0 is 9;noise 1 is 9;laugh 0;");
        due(18, "no laughs, but spilling", y.spoilt(30), 0);
        y.set(3, 99);
        due(18, "laughs and spilling", y.spoilt(5), 5);
        y = told("barge at 1 for 0 load 1;noise 0 is 9;laugh 99;");
        due(18, "it would be lost anyway", y.spoilt(30), 0);
        y.noise(0, 0);
        due(18, "lock 0 is still", y.spoilt(5), 5);
    }

    private static void states() {
        SilenceCanal x = told("barge at 0 for 3 load 10;barge at 3 for 3 load 20;barge at 3 for 9 load 30;noise 1 is 5;noise 4 is 5;");
        x.hours(1);
        due(19, "hour", x.state(0), 1);
        due(19, "loads", x.state(1), 50);
        due(19, "lost", x.state(2), 10);
        due(19, "landed", x.state(3), 2);
        due(19, "locks", x.state(4), 1 << 1 | 1 << 3 | 1 << 4);
        due(19, "loudest, the least of two", x.state(5), 1);
        x.noise(5, 6);
        x.hours(1);
        due(19, "loudest", x.state(5), 5);
        x = told("barge at 1 for 0;noise 0 is 1;");
        x.hours(1);
        due(19, "lost at lock 0", x.state(2), 1);
        due(19, "loudest by 1", x.state(5), 0);
        due(45, "locks with a loss", x.many(3), 1);
        due(19, "no what", x.state(6), -1);
        due(19, "no what", x.state(-1), -1);
    }

    private static void triedHours() {
        SilenceCanal x = told("barge at 0 for 9 load 40;lover at 9 for 4 load 60;mute at 5 for 5;");
        due(20, "now", x.freight(0, 0), 40);
        due(20, "behind 3", x.freight(0, 3), 34);
        due(20, "behind 60", x.freight(0, 60), 22);
        due(20, "behind 2, from now again", x.freight(0, 2), 36);
        due(20, "behind 61", x.freight(0, 61), -1);
        due(20, "behind -1", x.freight(0, -1), -1);
        due(20, "no such one", x.freight(3, 0), -1);
        due(21, "nine locks", x.lands(0), 9);
        due(21, "five by twos", x.lands(1), 3);
        due(21, "it has", x.lands(2), 0);
        due(21, "no such one", x.lands(3), -1);
        due(21, "no such one", x.lands(-1), -1);
        due(22, "0 is at 4 behind 4, 1 stays there", x.meets(0, 1), 4);
        due(22, "either way", x.meets(1, 0), 4);
        due(22, "0 comes to 5", x.meets(0, 2), 5);
        due(22, "1 is at 5 behind 2? it is at 7, 5, 4", x.meets(1, 2), 2);
        due(22, "one and the same", x.meets(1, 1), -1);
        due(22, "no such one", x.meets(0, 3), -1);
        due(22, "no such one", x.meets(-1, 0), -1);
        SilenceCanal y = told("barge at 0 for 1;barge at 1 for 2;barge at 4 for 4;barge at 4 for 8;");
        due(22, "never", y.meets(0, 1), -3);
        due(22, "now", y.meets(2, 3), 0);
        due(23, "all", x.quiet(), 9);
        due(23, "none", new SilenceCanal().quiet(), 0);
        due(23, "four", y.quiet(), 4);
        due(24, "now", x.cargo(0), 150);
        due(24, "2 and 1 and 1 less", x.cargo(1), 146);
        due(24, "behind 60", x.cargo(60), 127);
        due(24, "too far", x.cargo(61), -1);
        due(24, "below", x.cargo(-1), -1);
    }

    private static void choices() {
        SilenceCanal x = told("barge at 0 for 5 load 50;noise 2 is 6;noise 4 is 6;");
        due(25, "of 2 and 4 the least", x.stillFor(0, 5), 2);
        due(25, "by one hour", x.stillFor(0, 1), 1);
        due(25, "none", x.stillFor(0, 0), -1);
        due(25, "too many", x.stillFor(0, 31), -1);
        due(25, "30", x.stillFor(0, 30), 2);
        due(25, "no such one", x.stillFor(1, 5), -1);
        x.noise(1, 0);
        due(25, "no gain", x.stillFor(0, 1), -3);
        SilenceCanal zero = told("barge at 2 for 0 load 50;noise 1 is 0;noise 0 is 1;");
        due(25, "lock 0, by 1", zero.stillFor(0, 2), 0);
        due(28, "lock 0, by 1", zero.hushedFor(2, 50), 1);
        due(26, "the bishop: noise 0, 6 gains 2, loses 1", x.kindFor(0, 1), 3);
        x.set(1, 0);
        x.noise(1, 1);
        x.noise(2, 9);
        due(26, "the mute loses nothing at 1", x.kindFor(0, 1), 1);
        x.send(0, 0);
        due(26, "all the same", x.kindFor(0, 30), 0);
        due(26, "none", x.kindFor(0, 0), -1);
        due(26, "too many", x.kindFor(0, 31), -1);
        due(26, "no such one", x.kindFor(-1, 5), -1);
        SilenceCanal y = told("barge at 0 for 5 load 50;noise 2 is 6;");
        due(27, "14 less on the way", y.loadFor(0, 5, 40), 54);
        due(27, "nothing is enough for nothing", y.loadFor(0, 5, 0), 0);
        due(27, "one hour", y.loadFor(0, 1, 40), 42);
        due(27, "at most 85", y.loadFor(0, 30, 85), 99);
        due(27, "with none", y.loadFor(0, 30, 86), -3);
        due(27, "v too high", y.loadFor(0, 5, 100), -1);
        due(27, "v below", y.loadFor(0, 5, -1), -1);
        due(27, "no hours", y.loadFor(0, 0, 5), -1);
        due(27, "too many", y.loadFor(0, 31, 5), -1);
        due(27, "no such one", y.loadFor(1, 5, 5), -1);
        due(28, "36 as it is", y.hushedFor(5, 36), 0);
        due(28, "one: 1, 3, 4, 5 give 2, 2 gives 6", y.hushedFor(5, 37), 2);
        due(28, "one", y.hushedFor(5, 42), 4);
        due(28, "two: 2 with the least", y.hushedFor(5, 44), 6);
        due(28, "three", y.hushedFor(5, 46), 14);
        due(28, "all on the way", y.hushedFor(5, 50), 62);
        due(28, "by no set", y.hushedFor(5, 51), -3);
        due(28, "one hour", y.hushedFor(1, 50), 2);
        due(28, "nothing is there", y.hushedFor(1, 0), 0);
        due(28, "by no set", y.hushedFor(20, 999), -3);
        due(28, "no hours", y.hushedFor(0, 5), -1);
        due(28, "too many", y.hushedFor(21, 5), -1);
        due(28, "v below", y.hushedFor(5, -1), -1);
        due(28, "v too high", y.hushedFor(5, 1000), -1);
        SilenceCanal z = told("barge at 0 for 1;barge at 2 for 3;barge at 5 for 5;noise 1 is 4;noise 3 is 4;");
        due(29, "of two the least", z.holdFor(3), 0);
        z.noise(3, 5);
        due(29, "the greater", z.holdFor(30), 1);
        z.noise(1, 0);
        z.noise(3, 0);
        due(29, "nobody", z.holdFor(3), -3);
        due(29, "no hours", z.holdFor(0), -1);
        due(29, "too many", z.holdFor(31), -1);
        SilenceCanal held = told("barge at 1 for 2;barge at 2 for 9 other;noise 2 is 0;noise 3 is 0;echo 4;");
        due(29, "0 held: no meeting at 2; 1 held: it is met all the same", held.holdFor(1), 0);
        due(20, "none is held any more", held.freight(1, 1), 46);
    }

    private static void fitting() {
        SilenceCanal x = told("barge at 0 for 3 load 50;noise 1 is 4;noise 2 is 3;");
        x.sheet(0, 3, 3);
        x.put(0, 0, 20);
        x.put(0, 1, -1);
        x.put(0, 2, 15);
        due(30, "20, 17, 15", x.fits(0, 0, 0), 1);
        due(30, "24", x.fits(0, 0, 1), 24);
        x.put(0, 2, 14);
        due(30, "none", x.fits(0, 0, 0), 0);
        due(30, "none", x.fits(0, 0, 1), -3);
        x.put(0, 0, 0);
        x.put(0, 2, 0);
        due(30, "0 to 4", x.fits(0, 0, 0), 5);
        due(30, "0", x.fits(0, 0, 1), 0);
        x.sheet(0, 0, 0);
        due(30, "an empty one fits all", x.fits(0, 0, 0), 100);
        x.sheet(0, 0, 40);
        for (int i = 0; i < 40; i++) {
            x.put(0, i, 255);
        }
        due(30, "255 is -1 in bytes: any", x.fits(0, 0, 0), 100);
        x.put(0, 39, 90);
        due(30, "90 and 9", x.fits(0, 0, 1), 99);
        x.sheet(0, 2, 1);
        x.put(0, 0, 96);
        due(30, "above what can be", x.fits(0, 0, 1), -3);
        due(30, "missing", x.fits(1, 0, 0), -11);
        due(30, "no sheet", x.fits(4, 0, 0), -1);
        due(30, "no sheet", x.fits(-1, 0, 0), -1);
        due(30, "no such one", x.fits(1, 1, 0), -1);
        due(30, "no what", x.fits(1, 0, 2), -1);
        due(30, "no what", x.fits(1, 0, -1), -1);
    }

    private static void oddsAndHope() {
        SilenceCanal x = new SilenceCanal();
        due(31, "3 by 1", x.odds(3, 1, 0), 48);
        due(31, "3 by 1", x.odds(3, 1, 1), 125);
        due(31, "0 by 0", x.odds(0, 0, 0), 1);
        due(31, "0 by 0", x.odds(0, 0, 1), 1);
        x.set(3, 99);
        due(31, "99 eight times", x.odds(8, 8, 0), 9227446944279201L);
        due(31, "99 eight times", x.odds(8, 8, 1), 10000000000000000L);
        x.set(3, 50);
        due(31, "half, 4 of 8", x.odds(8, 4, 0), 35);
        due(31, "half, 4 of 8", x.odds(8, 4, 1), 128);
        x.set(3, 0);
        due(31, "never", x.odds(5, 1, 0), 0);
        due(31, "0 is 0 by 1", x.odds(5, 1, 1), 1);
        due(31, "always", x.odds(5, 0, 0), 1);
        long[] bad = {x.odds(9, 0, 0), x.odds(-1, 0, 0), x.odds(3, 4, 0), x.odds(3, -1, 0), x.odds(3, 1, 2), x.odds(3, 1, -1)};
        for (long answer : bad) {
            due(31, "bad", answer, -1);
        }
        x.set(3, 35);
        due(32, "6 by 35", x.hope(6, 0), 21);
        due(32, "6 by 35", x.hope(6, 1), 10);
        due(32, "99 by 35", x.hope(99, 0), 693);
        due(32, "99 by 35", x.hope(99, 1), 20);
        due(32, "none", x.hope(0, 0), 0);
        due(32, "none", x.hope(0, 1), 1);
        long[] worse = {x.hope(100, 0), x.hope(-1, 0), x.hope(3, 2), x.hope(3, -1)};
        for (long answer : worse) {
            due(32, "bad", answer, -1);
        }
    }

    private static void rowsAndReader() {
        SilenceCanal x = told("barge at 0 for 2 load 50;barge at 9 for 0 load 10;");
        due(36, "no rows", x.judge(0), 0);
        due(36, "no such one", x.judge(2), -1);
        due(33, "three", x.prove(0, 3), 3);
        int[][] want = {{1, 48, 4}, {2, 46, 8}, {2, 46, 10}};
        for (int i = 0; i < 3; i++) {
            for (int what = 0; what < 3; what++) {
                due(34, "row " + i + " " + what, x.row(i, what), want[i][what]);
            }
        }
        due(34, "no row", x.row(3, 0), -9);
        due(34, "no row", x.row(-1, 0), -9);
        due(34, "no what", x.row(0, 3), -9);
        due(34, "no what", x.row(0, -1), -9);
        due(33, "no such one", x.prove(2, 3), -1);
        due(33, "no hours", x.prove(0, 0), -1);
        due(33, "too many", x.prove(0, 11), -1);
        due(33, "as before", x.many(4), 3);
        due(36, "right", x.judge(0), 0);
        due(36, "not those of 1", x.judge(1), 1);
        for (int what = 0; what < 3; what++) {
            int was = x.row(2, what);
            due(35, "was", x.alterRow(2, what, MIN), was);
            due(35, "is", x.row(2, what), MIN);
            due(36, "the third", x.judge(0), 3);
            x.alterRow(2, what, was);
            due(36, "right again", x.judge(0), 0);
        }
        due(35, "no row", x.alterRow(3, 0, 1), -9);
        due(35, "no row", x.alterRow(MIN, 0, 1), -9);
        due(35, "no what", x.alterRow(0, 3, 1), -9);
        x.alterRow(1, 0, 7);
        x.alterRow(2, 0, 7);
        due(36, "the first that is not", x.judge(0), 2);
        due(33, "ten", x.prove(1, 10), 10);
        due(34, "the last", x.row(9, 0), 0);
        due(33, "fewer", x.prove(1, 1), 1);
        due(34, "from now again", x.row(0, 0), 8);
        due(34, "no second", x.row(1, 0), -9);
        x.hours(1);
        due(36, "from how it is now", x.judge(1), 1);
    }

    private static void mindsFromSheets() {
        SilenceCanal x = told("barge at 0 for 9;barge at 0 for 9;barge at 0 for 9;");
        x.sheet(0, 0, 4);
        x.put(0, 0, 5);
        x.put(0, 1, -3);
        x.put(0, 2, 127);
        x.put(0, 3, 99);
        due(37, "three", x.minds(0, 1, 0, 3), 3);
        due(37, "held to 0", x.of(0, 1), 0);
        due(37, "held to 99", x.of(1, 1), 99);
        due(37, "99", x.of(2, 1), 99);
        due(37, "from 0", x.minds(0, 0, 2, 1), 1);
        due(37, "5", x.of(2, 1), 5);
        due(37, "none", x.minds(0, 4, 2, 0), 0);
        due(37, "none, outside", x.minds(0, 5, 2, 0), -12);
        due(37, "none, below", x.minds(0, -1, 2, 0), -12);
        due(37, "not so many", x.minds(0, 3, 0, 2), -12);
        due(37, "far outside", x.minds(0, MAX, 0, 2), -12);
        due(37, "far below", x.minds(0, MIN, 0, 2), -12);
        due(37, "beyond the last one", x.minds(0, 0, 2, 2), -1);
        due(37, "no such one, for none", x.minds(0, 0, 3, 0), -1);
        due(37, "nine", x.minds(0, 0, 0, 9), -1);
        due(37, "below", x.minds(0, 0, 0, -1), -1);
        due(37, "below", x.minds(0, 0, 0, -2), -1);
        due(37, "no sheet", x.minds(4, 0, 0, 1), -1);
        due(37, "missing", x.minds(1, 9, 0, 1), -11);
        x.sheet(1, 1, 1);
        due(37, "of shorts, before outside", x.minds(1, 9, 0, 1), -13);
        due(37, "unchanged", x.of(0, 1), 0);
    }

    private static void sheetsOfSorts() {
        SilenceCanal x = new SilenceCanal();
        int[] narrow = {0x78, 0x5678, 0x12345678, 0x12345678};
        int[] minus = {(byte) 0x89, (short) 0x6789, 0x23456789, 0x23456789};
        for (int sort = 0; sort < 4; sort++) {
            due(38, "made", x.sheet(sort, sort, 40), 1);
            due(39, "put", x.put(sort, 39, 0x12345678), 1);
            due(40, "narrowed", x.item(sort, sort, 39), narrow[sort]);
            x.put(sort, 0, 0x23456789);
            due(40, "narrowed with its sign", x.item(sort, sort, 0), minus[sort]);
            x.put(sort, 1, -15);
            due(40, "below 0", x.item(sort, sort, 1), -15);
            due(40, "another sort", x.item(sort, (sort + 1) % 4, 0), -13);
            due(40, "another sort before outside", x.item(sort, (sort + 1) % 4, 40), -13);
            due(40, "outside", x.item(sort, sort, 40), -12);
            due(40, "outside", x.item(sort, sort, -1), -12);
            due(39, "outside", x.put(sort, 40, 1), -12);
            due(39, "outside", x.put(sort, -1, 1), -12);
            due(38, "anew", x.sheet(sort, sort, 40), 1);
            due(40, "all 0", x.item(sort, sort, 39), 0);
        }
        due(38, "41", x.sheet(0, 0, 41), -1);
        due(38, "below 0", x.sheet(0, 0, -1), -14);
        due(38, "far below 0", x.sheet(0, 0, MIN), -14);
        due(38, "no sort", x.sheet(0, 4, -1), -1);
        due(38, "no sort", x.sheet(0, -2, 1), -1);
        due(38, "no sheet", x.sheet(4, 0, 1), -1);
        due(38, "no sheet", x.sheet(-1, -1, 1), -1);
        due(40, "as it was", x.item(0, 0, 39), 0);
        due(38, "an empty one", x.sheet(0, 2, 0), 1);
        due(39, "nothing in it", x.put(0, 0, 1), -12);
        due(38, "missing, whatever n", x.sheet(0, -1, 99), 1);
        due(39, "missing", x.put(0, 0, 1), -11);
        due(40, "missing", x.item(0, 2, 0), -11);
        due(39, "no sheet", x.put(4, 0, 1), -1);
        due(40, "no sheet", x.item(-1, 0, 0), -1);
        due(40, "no sort", x.item(0, 4, 0), -1);
        due(40, "no sort", x.item(1, -1, 0), -1);
    }

    private static void shelvesAndKinds() {
        SilenceCanal x = told("barge at 0 for 9;mute at 0 for 9;lover at 0 for 9;bishop at 0 for 9;miller at 0 for 9;dealer at 0 for 9;");
        int[] above = {0b000001, 0b000011, 0b000101, 0b001011, 0b010101, 0b100001};
        for (int kind = 0; kind < 6; kind++) {
            due(41, "held", x.shelf(3, 0, kind), 1);
            for (int as = 0; as < 6; as++) {
                due(42, kind + " as " + as, x.taken(3, as), (above[kind] >> as & 1) == 1 ? kind : -13);
            }
            due(42, "as bytes", x.taken(3, 10), -13);
        }
        x.mind(5, 3, 0);
        due(42, "of the kind it is now", x.taken(3, 1), 5);
        int[] none = {6, 9, 14, -1, MIN, MAX};
        for (int as : none) {
            due(42, "no such as", x.taken(3, as), -1);
        }
        due(42, "no shelf", x.taken(4, 0), -1);
        due(42, "no shelf", x.taken(-1, 0), -1);
        due(42, "nothing", x.taken(0, 0), -11);
        due(42, "nothing", x.taken(0, 13), -11);
        x.sheet(2, 1, 7);
        due(41, "a row", x.shelf(0, 1, 2), 1);
        due(42, "of shorts", x.taken(0, 11), 7);
        due(42, "of bytes", x.taken(0, 10), -13);
        due(42, "as a barge", x.taken(0, 0), -13);
        x.sheet(2, 2, 9);
        due(42, "still the row it held", x.taken(0, 11), 7);
        x.sheet(2, -1, 0);
        due(42, "still", x.taken(0, 11), 7);
        due(41, "the row of one missing", x.shelf(0, 1, 2), 1);
        due(42, "nothing", x.taken(0, 11), -11);
        x.shelf(0, 0, 1);
        due(41, "nothing, whatever n", x.shelf(0, 2, MIN), 1);
        due(42, "nothing", x.taken(0, 0), -11);
        due(41, "no shelf", x.shelf(4, 2, 0), -1);
        due(41, "no shelf", x.shelf(-1, 0, 0), -1);
        due(41, "no what", x.shelf(0, 3, 0), -1);
        due(41, "no what", x.shelf(0, -1, 0), -1);
        due(41, "no such one", x.shelf(3, 0, 6), -1);
        due(41, "no such sheet", x.shelf(3, 1, 4), -1);
        due(41, "as it was", x.taken(3, 3), 5);
        Check.feedText(x, "mute at 1 for 2;");
        x.canal();
        due(42, "no such one at the time", x.taken(3, 0), -11);
        due(43, "nothing to act", x.act(3, 0, 1), 0);
        for (int i = 1; i < 6; i++) {
            x.barge(4, 1, 1, 1);
        }
        due(42, "there is one again", x.taken(3, 2), 5);
    }

    private static void actDue(SilenceCanal x, int barge, int act, int v, int want, int... bodies) {
        x.shelf(1, 0, barge);
        String what = "act " + act + " of " + barge + " with " + v;
        due(43, what, x.act(1, act, v), want);
        due(45, what + ", bodies", x.many(6), bodies.length);
        for (int i = 0; i < bodies.length; i++) {
            due(44, what + ", body " + i, x.trace(i), bodies[i]);
        }
        due(44, what + ", no more", x.trace(bodies.length), -3);
    }

    private static void actsAndTrace() {
        SilenceCanal x = told("barge at 2 for 9;mute at 4 for 9;lover at 5 for 9;bishop at 7 for 9;miller at 6 for 9;dealer at 8 for 9;");
        actDue(x, 0, 0, 5, 15, 10);
        actDue(x, 0, 1, 5, 11, 11, 10);
        actDue(x, 0, 2, -5, -2, 12);
        actDue(x, 0, 3, 5, 11 ^ 170, 13, 11, 10);
        actDue(x, 1, 0, 5, 16, 10);
        actDue(x, 1, 1, 5, -8, 20, 11, 10);
        actDue(x, 1, 2, 8, 2, 12);
        actDue(x, 1, 3, 5, -8 ^ 170, 13, 20, 11, 10);
        actDue(x, 2, 0, 5, 21, 30, 10);
        actDue(x, 2, 1, 5, 11, 11, 30, 10);
        actDue(x, 2, 2, 10, 3, 12);
        actDue(x, 2, 3, 5, 11 ^ 170, 31, 13, 11, 30, 10, 12);
        actDue(x, 3, 0, 5, 11, 51, 10);
        actDue(x, 3, 1, 5, 3, 20, 11, 51, 10);
        actDue(x, 3, 2, 10, 4 ^ 3, 50, 12);
        actDue(x, 3, 3, 5, 3 ^ 170, 13, 20, 11, 51, 10);
        actDue(x, 4, 0, 5, 46, 40, 30, 10);
        // 46 - 12, and floats(6): (18 + 4 + 4) * 2
        actDue(x, 4, 1, 5, 34 + 52, 41, 11, 40, 30, 10, 40, 30, 10);
        actDue(x, 4, 2, 9, 4, 12);
        actDue(x, 4, 3, 5, (86 ^ 170) - 2, 31, 13, 41, 11, 40, 30, 10, 40, 30, 10, 12);
        actDue(x, 5, 0, 5, 20, 10);
        actDue(x, 5, 1, 5, 4, 11, 10);
        actDue(x, 5, 2, 9, 3 - 20, 61, 12, 10);
        actDue(x, 5, 3, 5, (4 ^ 170) * 5, 60, 13, 11, 10);
        actDue(x, 0, 0, MAX, MAX * 3, 10);

        x.bring(1, 0);
        actDue(x, 1, 2, MIN, MIN, 12);
        for (int b = 0; b < 6; b++) {
            x.bring(b, b);
        }
        actDue(x, 0, 2, 5, -15, 12);
        actDue(x, 2, 3, 5, -15, 31, 13, 11, 30, 10, 12);
        actDue(x, 3, 2, 5, -15, 50, 12);
        actDue(x, 4, 3, 5, -15, 31, 13, 41, 11, 40, 30, 10, 40, 30, 10, 12);
        actDue(x, 5, 2, 5, -15, 61, 12);
        actDue(x, 5, 3, 5, (10 ^ 170) * 5, 60, 13, 11, 10);

        due(44, "below", x.trace(-1), -3);
        due(44, "far above", x.trace(MAX), -3);
        due(43, "no act", x.act(1, 4, 5), 0);
        due(45, "no trace then", x.many(6), 0);
        x.act(1, 0, 5);
        due(43, "no act", x.act(1, -1, 5), 0);
        due(44, "no trace then", x.trace(0), -3);
        x.act(1, 0, 5);
        due(43, "no shelf", x.act(4, 0, 5), 0);
        due(45, "no trace then", x.many(6), 0);
        x.act(1, 0, 5);
        due(43, "nothing", x.act(0, 0, 5), 0);
        due(45, "no trace then", x.many(6), 0);
        x.act(1, 0, 5);
        x.sheet(0, 0, 3);
        x.shelf(2, 1, 0);
        due(43, "a row", x.act(2, 0, 5), 0);
        due(45, "no trace then", x.many(6), 0);
    }

    private static void counts() {
        SilenceCanal x = told("barge at 0 for 3;barge at 0 for 1;barge at 5 for 5;lover at 4 for 9;");
        x.feed(32, 1);
        x.prove(0, 4);
        x.hours(1);
        due(45, "barges", x.many(0), 4);
        due(45, "landed", x.many(1), 2);
        due(45, "locks", x.many(2), 3);
        due(45, "locks with a loss: 1, 5, 6", x.many(3), 3);
        due(45, "rows", x.many(4), 4);
        due(45, "bytes", x.many(5), 1);
        due(45, "bodies", x.many(6), 0);
        due(45, "no what", x.many(7), -1);
        due(45, "no what", x.many(-1), -1);
    }

    private static void keeping() {
        SilenceCanal x = told("barge at 0 for 9 load 40;mute at 9 for 0 other;noise 4 is 7;echo 6;hush 5;wind 4;laugh 33;");
        x.hours(2);
        x.seed(99);
        due(46, "kept", x.keep(), 1);
        int[] before = all(x);
        x.hour();
        x.barge(5, 5, 5, 5);
        x.mind(0, 3, 1);
        x.noise(4, 1);
        for (int law = 0; law < 4; law++) {
            x.set(law, 0);
        }
        x.send(0, 0);
        x.feed(0x2020, 2);
        x.prove(0, 5);
        x.sheet(1, 0, 3);
        x.shelf(1, 0, 2);
        x.shelf(2, 0, 1);
        x.act(2, 0, 1);
        due(47, "two", x.again(), 2);
        same(47, before, all(x));
        due(47, "z", x.seed(99), 99);
        due(47, "the tape stays", x.many(5), 2);
        due(47, "rows stay", x.many(4), 5);
        due(47, "the trace stays", x.many(6), 1);
        due(47, "sheets stay", x.item(1, 0, 0), 0);
        due(47, "shelves stay", x.taken(2, 1), 1);
        due(47, "but there is no such one", x.taken(1, 0), -11);
        x.fill(0, 1);
        due(47, "it stays kept", x.again(), 2);
        same(47, before, all(x));
        x.fill(0, 1);
        x.keep();
        x.fill(0, 2);
        x.again();
        due(46, "the latest", x.of(0, 1), 1);
    }

    /** All that calls can see without changing it. */
    private static int[] all(SilenceCanal x) {
        int[] seen = new int[200];
        int n = 0;
        for (int b = 0; b < 8; b++) {
            for (int what = 0; what < 6; what++) {
                seen[n++] = x.of(b, what);
            }
        }
        for (int lock = 0; lock < 10; lock++) {
            for (int what = 0; what < 3; what++) {
                seen[n++] = x.lock(lock, what);
            }
        }
        for (int i = 0; i < 6; i++) {
            seen[n++] = x.lawOf(i);
            seen[n++] = x.state(i);
            seen[n++] = x.many(i < 4 ? i : 0);
        }
        int z = x.seed(0);
        x.seed(z);
        seen[n] = z;
        return seen;
    }

    private static void same(int promise, int[] want, int[] got) {
        for (int i = 0; i < want.length; i++) {
            due(promise, "as before, " + i, got[i], want[i]);
        }
    }

    private static void triedChangesNothing() {
        SilenceCanal x = told("barge at 0 for 9 load 40;mute at 9 for 0 other;lover at 2 for 7;bishop at 8 for 1 load 30 other;laugh 50;");
        x.hours(1);
        x.sheet(0, 0, 3);
        int[] before = all(x);
        x.freight(0, 60);
        same(20, before, all(x));
        x.lands(0);
        same(21, before, all(x));
        x.meets(0, 1);
        same(22, before, all(x));
        x.quiet();
        same(23, before, all(x));
        x.cargo(60);
        same(24, before, all(x));
        x.stillFor(0, 30);
        same(25, before, all(x));
        x.kindFor(0, 30);
        same(26, before, all(x));
        x.loadFor(0, 30, 20);
        same(27, before, all(x));
        x.hushedFor(20, 150);
        same(28, before, all(x));
        x.holdFor(30);
        same(29, before, all(x));
        x.fits(0, 0, 1);
        same(30, before, all(x));
        x.prove(0, 10);
        same(33, before, all(x));
        x.judge(1);
        same(36, before, all(x));
        x.spoilt(30);
        same(18, before, all(x));
        x.keep();
        same(46, before, all(x));
    }
}
