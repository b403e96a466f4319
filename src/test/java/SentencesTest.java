/**
 * The sentences of promises 1 to 47, one by one, at the edges that they name. The words quoted are looked up in
 * the document, and every promise must have been quoted; the values are worked out by hand. What is refused for
 * being out of a range is in RangesTest, and that refusals change nothing in RefusalsTest.
 */
public final class SentencesTest {
    private static final int MIN = Integer.MIN_VALUE, MAX = Integer.MAX_VALUE;
    private static final Doc DOC = new Doc();
    private static final Check CHECK = new Check("SentencesTest", DOC);

    public static void main(String[] args) {
        promise1NewObject();
        promise2Feed();
        promise3Canal();
        promises4And5Laws();
        promises6And7Barges();
        promise8Does();
        promises9To12Altering();
        promises13And14Locks();
        promise15Hours();
        promises16And17Draws();
        promise18Spoilt();
        promise19State();
        promises20To24Tried();
        promises25To27Choices();
        promises28And29Choices();
        promise30Fits();
        promises31And32Odds();
        promises33To36Rows();
        promise37Minds();
        promise38Sheet();
        promises39And40Items();
        promises41And42Shelves();
        promises43And44Acts();
        promise45Many();
        promise46Keep();
        promise47Again();
        everyPromiseIsQuoted();
        if (args.length > 0) {
            System.out.print(DOC.unquoted("Promise"));
        }
        CHECK.end();
    }

    private static void say(int promise, String words) {
        CHECK.sentence("Promise " + promise, words);
    }

    private static void due(String what, long got, long want) {
        CHECK.due(what, got, want);
    }

    private static SilenceCanal told(String text) {
        return Check.told(text);
    }

    private static void everyPromiseIsQuoted() {
        for (int promise = 1; promise <= 47; promise++) {
            CHECK.holds("promise " + promise + " is quoted", DOC.hasQuote("Promise " + promise));
        }
    }

    private static void promise1NewObject() {
        say(1, "No BARGES; nothing is kept.");
        SilenceCanal x = new SilenceCanal();
        due("no barges", x.many(0), 0);
        due("no first one", x.of(0, 0), -1);
        due("nothing is kept", x.again(), -3);
        due("still no barges", x.many(0), 0);
        // What one object has is not another's.
        SilenceCanal y = new SilenceCanal();
        y.barge(1, 2, 3, 4);
        y.set(0, 9);
        y.noise(0, 9);
        y.keep();
        y.sheet(0, 0, 3);
        y.shelf(0, 0, 0);
        y.feed(32, 1);
        y.seed(5);
        due("none came to it", x.many(0), 0);
        due("its laws", x.lawOf(0), 3);
        due("its locks", x.lock(0, 0), 2);
        due("nothing is kept in it", x.again(), -3);
        due("its sheets", x.item(0, 0, 0), -11);
        due("its shelves", x.taken(0, 0), -11);
        due("its tape", x.many(5), 0);
        due("its z", x.seed(1), 1);
    }

    private static void promise2Feed() {
        say(2, "n bytes (1 to 8) come to THE TAPE, the lowest of eight first: how many it has.");
        String line = "wind 7;;";
        for (int n = 1; n <= 8; n++) {
            SilenceCanal x = new SilenceCanal();
            due(n + " bytes", x.feed(Check.packed(line, 0, 8), n), n);
            int want = n < 4 ? -100 : n < 7 ? -100 - (n == 5 ? 5 : n) : n == 7 ? 0 : -107;
            due("just those came, " + n, x.canal(), want);
        }
        SilenceCanal y = new SilenceCanal();
        due("all bits", y.feed(-1L, 8), 8);
        due("and one more", y.feed(Long.MIN_VALUE, 1), 9);
        say(2, "BAD; FULL: more than 200.");
        SilenceCanal x = new SilenceCanal();
        for (int i = 1; i <= 25; i++) {
            due("up to 200", x.feed(0x2020202020202020L, 8), 8 * i);
        }
        for (int n = 1; n <= 8; n++) {
            due("more than 200", x.feed(0, n), -2);
        }
        due("none", x.feed(0, 0), -1);
        due("200 still", x.many(5), 200);
        due("none of the zeros came", x.canal(), 0);
        for (int n = 1; n <= 8; n++) {
            SilenceCanal z = new SilenceCanal();
            Check.feedText(z, " ".repeat(196));
            due(n + " to 196", z.feed(0x2020202020202020L, n), n <= 4 ? 196 + n : -2);
        }
    }

    private static void promise3Canal() {
        say(3, "THE TAPE becomes all: how many BARGES;");
        due("an empty tape", new SilenceCanal().canal(), 0);
        due("eight", Check.answerTo("mute at 1 for 2;".repeat(8)), 8);
        SilenceCanal x = told("barge at 0 for 9;barge at 0 for 9;");
        due("an empty tape becomes all", x.canal(), 0);
        due("none", x.many(0), 0);
        say(3, "-100 less its FAULT.");
        due("at the first byte", Check.answerTo("1"), -100);
        due("at the last byte", Check.answerTo(" ".repeat(199) + "1"), -299);
        due("at the end of 200", Check.answerTo(" ".repeat(196) + "echo"), -300);
        due("at the end of 5", Check.answerTo("noise"), -105);
        say(3, "There are no ROWS then.");
        SilenceCanal y = told("barge at 0 for 9;");
        y.prove(0, 10);
        Check.feedText(y, "barge at 0 for 9;");
        due("one", y.canal(), 1);
        due("no rows", y.many(4), 0);
        due("no first row", y.row(0, 0), -9);
        due("none to be altered", y.alterRow(0, 0, 1), -9);
        due("none to be judged", y.judge(0), 0);
        y.prove(0, 2);
        Check.feedText(y, "fault");
        due("a fault", y.canal(), -100);
        due("changes no rows", y.many(4), 2);
        due("the row is as it was", y.row(1, 0), 2);
    }

    private static void promises4And5Laws() {
        say(4, "A LAW becomes v: what it was. BAD.");
        say(5, "A LAW. BAD.");
        int[] most = {9, 9, 9, 99};
        SilenceCanal x = new SilenceCanal();
        for (int law = 0; law < 4; law++) {
            x.set(law, most[law]);
        }
        for (int law = 0; law < 4; law++) {
            due("the greatest was", x.set(law, 0), most[law]);
            due("the least is", x.lawOf(law), 0);
            due("the least was", x.set(law, 0), 0);
            for (int other = law + 1; other < 4; other++) {
                due("another stays", x.lawOf(other), most[other]);
            }
        }
        due("laugh may be 10 and more, echo not", x.set(3, 10), 0);
        due("laugh may be 10 and more, echo not", x.set(0, 10), -1);
    }

    private static void promises6And7Barges() {
        say(6, "One more, of SORT 0, AT a LOCK, BOUND for one: its number. BAD; FULL.");
        SilenceCanal x = told("mute at 3 for 3 other;");
        due("the next number", x.barge(5, 99, 9, 0), 1);
        int[] greatest = {5, 99, 0, 9, 0, 0};
        due("the next number", x.barge(0, 0, 0, 9), 2);
        int[] least = {0, 0, 0, 0, 9, 0};
        due("the next number", x.barge(0, 0, 4, 4), 3);
        int[] landed = {0, 0, 0, 4, 4, 1};
        say(7, "Of one: what = 0 KIND, 1 LOAD, 2 SORT, 3 AT, 4 BOUND for which, 5 1 if it has LANDED, else 0. BAD.");
        for (int what = 0; what < 6; what++) {
            due("greatest, " + what, x.of(1, what), greatest[what]);
            due("least, " + what, x.of(2, what), least[what]);
            due("landed, " + what, x.of(3, what), landed[what]);
        }
        due("the first stays", x.of(0, 2), 1);
        // One that comes where another was is of SORT 0 all the same.
        SilenceCanal y = told("mute at 3 for 3 other;");
        Check.feedText(y, " ");
        y.canal();
        y.barge(1, 5, 3, 3);
        due("of sort 0", y.of(0, 2), 0);
        for (int i = 1; i < 8; i++) {
            y.barge(0, 0, 0, 0);
        }
        due("full", y.barge(0, 0, 0, 0), -2);
        due("no ninth", y.of(8, 0), -1);
        y.canal();
        due("there is room again", y.barge(0, 0, 0, 0), 0);
    }

    private static void promise8Does() {
        say(8, "1000, and PACE of one now (what 0), what it SPILLS now AT the LOCK AT which it is (1). BAD.");
        SilenceCanal x = told("bishop at 9 for 9;dealer at 0 for 9;noise 9 is 0;noise 0 is 9;hush 9;wind 9;");
        due("the least spill", x.does(0, 1), 991);
        due("the greatest pace", x.does(1, 0), 1010);
        due("a dealer's spill", x.does(1, 1), 1018);
        x.mind(1, 4, 0);
        x.fill(1, 99);
        due("a miller's spill, the most", x.does(1, 1), 1017);
        due("one that has landed has a pace, too", x.does(0, 0), 1002);
        x.mind(1, 5, 0);
        x.set(2, 0);
        due("the least pace", x.does(1, 0), 1001);
        x.hours(1);
        due("now: in hour 1, at lock 1", x.does(1, 1), 1000);
    }

    private static void promises9To12Altering() {
        SilenceCanal x = told("barge at 0 for 9 load 50;mute at 1 for 8 load 40 other;");
        say(9, "One becomes one of another KIND, of another SORT: the KIND that it was. BAD.");
        for (int kind = 0; kind < 6; kind++) {
            due("was", x.mind(0, kind, kind & 1), kind == 0 ? 0 : kind - 1);
            due("is", x.of(0, 0), kind);
            due("of sort", x.of(0, 2), kind & 1);
        }
        due("the same again", x.mind(0, 5, 1), 5);
        due("all else stays", x.of(0, 1), 50);
        due("all else stays", x.of(0, 3), 0);
        due("all else stays", x.of(0, 4), 9);
        due("the other stays", x.of(1, 0), 1);
        say(10, "LOAD becomes v: what it was. BAD.");
        due("was 50", x.fill(0, 99), 50);
        due("was the greatest", x.fill(0, 0), 99);
        due("was the least", x.fill(0, 7), 0);
        due("nothing is lost by it", x.state(2), 0);
        due("the other stays", x.of(1, 1), 40);
        say(11, "It is AT a LOCK from now on: AT which it was. BAD.");
        due("was at 0", x.bring(0, 9), 0);
        due("was at 9", x.bring(0, 9), 9);
        due("was at 9", x.bring(0, 0), 9);
        due("nothing spills by it", x.of(0, 1), 7);
        due("the other stays", x.of(1, 3), 1);
        say(12, "It is BOUND for a LOCK from now on: for which it was. BAD.");
        due("was for 9", x.send(0, 0), 9);
        due("was for 0", x.send(0, 9), 0);
        due("was for 9", x.send(0, 9), 9);
        due("it has not gone", x.of(0, 3), 0);
        due("the other stays", x.of(1, 4), 8);
    }

    private static void promises13And14Locks() {
        say(13, "NOISE of a LOCK becomes v: what it was. BAD.");
        SilenceCanal x = new SilenceCanal();
        due("of the first", x.noise(0, 9), 2);
        due("of the last", x.noise(9, 0), 2);
        due("was the greatest", x.noise(0, 0), 9);
        due("was the least", x.noise(9, 9), 0);
        due("others stay", x.lock(1, 0), 2);
        due("others stay", x.lock(8, 0), 2);
        say(14, "Of a LOCK: what = 0 NOISE, 1 LOST, 2 those AT it, as a set. BAD.");
        due("noise of the first", x.lock(0, 0), 0);
        due("noise of the last", x.lock(9, 0), 9);
        due("none at it", x.lock(9, 2), 0);
        for (int i = 0; i < 8; i++) {
            x.barge(0, 10, 8, 9);
        }
        due("all eight", x.lock(8, 2), 255);
        x.hours(1);
        due("none any more", x.lock(8, 2), 0);
        due("all eight", x.lock(9, 2), 255);
        due("lost", x.lock(9, 1), 72);
        due("nothing lost where they were", x.lock(8, 1), 0);
        x.noise(9, 0);
        due("noise takes nothing of it", x.lock(9, 1), 72);
    }

    private static void promise15Hours() {
        say(15, "n HOURS (1 to 60): LOADS of all together then. BAD.");
        SilenceCanal x = told("barge at 0 for 9 load 50;barge at 9 for 0 load 99;");
        due("one", x.hours(1), 145);
        due("two", x.hours(2), 137);
        due("sixty", x.hours(60), 149 - 36);
        due("all of them counted", x.state(0), 63);
        due("none is there", new SilenceCanal().hours(1), 0);
        SilenceCanal y = told("dealer at 0 for 3 load 50;wind 0;");
        y.hours(60);
        due("in hour 0 alone", y.of(0, 1), 46);
        y.bring(0, 0);
        due("hour 60 leaves 0 by 3", y.hours(1), 42);
    }

    private static void promises16And17Draws() {
        say(16, "z becomes v: what it was.");
        SilenceCanal x = new SilenceCanal();
        due("1 at first", x.seed(0), 1);
        due("0", x.seed(-1), 0);
        due("below 0", x.seed(MIN), -1);
        due("the least", x.seed(MAX), MIN);
        due("the greatest", x.seed(1), MAX);
        say(17, "AN HOUR BY DRAWS: LOADS of all together then.");
        due("of none", x.hour(), 0);
        due("an hour", x.state(0), 1);
        due("no draws", x.seed(1), 1);
        x.barge(0, 99, 0, 9);
        x.set(3, 0);
        due("no laughs: an hour", x.hour(), 97);
        x.set(3, 99);
        x.seed(1);
        due("a laugh, then an hour", x.hour(), 46);
        // From 0: 12345, drawn 0; then 12345 * 1103515245 + 12345.
        x.seed(0);
        x.hour();
        due("two draws from 0", x.seed(1), 12345 * 1103515245 + 12345);
        // From these the first draw is 65535 or 0, the second is far above or below: never below 0.
        int[] seeds = {MIN, MAX, -1, -12345, 0x7fff0000, 0xffff0000};
        for (int seed : seeds) {
            SilenceCanal y = told("barge at 0 for 0 load 80;barge at 0 for 0 load 80;barge at 0 for 0 load 80;laugh 50;");
            y.seed(seed);
            int first = seed * 1103515245 + 12345;
            int second = first * 1103515245 + 12345;
            boolean laughs = (second >>> 16) % 100 < 50;
            due("from " + seed, y.hour(), laughs ? 200 : 240);
            due("the one, from " + seed, y.of((first >>> 16) % 3, 1), laughs ? 40 : 80);
        }
    }

    private static void promise18Spoilt() {
        say(18, "SPOILT (n 1 to 30). BAD.");
        SilenceCanal x = told("barge at 0 for 0 load 2;laugh 99;");
        due("one", x.spoilt(1), 1);
        // Of the first thirty pairs of draws from z 1 those whose second leaves 99 by 100 are no laughs.
        int z = 1;
        int many = 0;
        for (int i = 0; i < 30; i++) {
            z = (z * 1103515245 + 12345) * 1103515245 + 12345;
            many += (z >>> 16) % 100 < 99 ? 1 : 0;
        }
        due("thirty", x.spoilt(30), many);
        due("the same again", x.spoilt(30), many);
        due("nothing changes", x.of(0, 1), 2);
        due("z neither", x.seed(1), 1);
        SilenceCanal y = told("barge at 0 for 0 load 1;barge at 0 for 0 load 0;laugh 99;");
        z = 1;
        many = 0;
        for (int i = 0; i < 30; i++) {
            z = z * 1103515245 + 12345;
            int one = (z >>> 16) % 2;
            z = z * 1103515245 + 12345;
            many += one == 0 && (z >>> 16) % 100 < 99 ? 1 : 0;
        }
        due("only the first has anything to lose", y.spoilt(30), many);
    }

    private static void promise19State() {
        say(19, "What = 0 HOUR, 1 LOADS of all together, 2 LOST AT all LOCKS together, 3 those that have LANDED, as a set, 4 LOCKS AT which one is, as a set, 5 LOUDEST. BAD.");
        SilenceCanal x = new SilenceCanal();
        int[] empty = {0, 0, 0, 0, 0, 10};
        for (int what = 0; what < 6; what++) {
            due("of none, " + what, x.state(what), empty[what]);
        }
        for (int i = 0; i < 8; i++) {
            x.barge(0, 99, i + 1, i == 7 ? 9 : i);
        }
        int[] before = {0, 792, 0, 0, 0b0111111110, 10};
        for (int what = 0; what < 6; what++) {
            due("before, " + what, x.state(what), before[what]);
        }
        x.hours(1);
        int[] after = {1, 776, 16, 255, 0b1001111111, 0};
        for (int what = 0; what < 6; what++) {
            due("after, " + what, x.state(what), after[what]);
        }
        x.bring(6, 0);
        due("two at one lock are one lock", x.state(4), 0b1000111111);
        due("one has not landed there", x.state(3), 0b10111111);
    }

    private static void promises20To24Tried() {
        SilenceCanal x = told("barge at 0 for 9 load 20;barge at 9 for 0 load 7;");
        say(20, "FREIGHT of one by n (0 to 60). BAD.");
        due("by 0", x.freight(0, 0), 20);
        due("by 9", x.freight(0, 9), 2);
        due("by 60", x.freight(0, 60), 2);
        due("of the second", x.freight(1, 60), 0);
        say(21, "LANDS. BAD; NONE: not by then.");
        // No way is longer than nine locks, and no pace below 1: all have landed by nine hours.
        for (int kind = 0; kind < 6; kind++) {
            x.mind(0, kind, 0);
            x.set(2, 0);
            int[] hours = {9, 9, 5, 5, 6, 9};
            due("of kind " + kind, x.lands(0), hours[kind]);
        }
        x.mind(0, 0, 0);
        x.hours(8);
        due("one hour", x.lands(0), 1);
        x.hours(1);
        due("it has", x.lands(0), 0);
        say(22, "MEETS of two. BAD: also one and the same; NONE: not by then.");
        due("the same", x.meets(0, 0), -1);
        due("the same", x.meets(1, 1), -1);
        due("never", x.meets(0, 1), -3);
        due("never, the other way round", x.meets(1, 0), -3);
        due("no second", told("barge at 0 for 9;").meets(0, 1), -1);
        x.bring(1, 9);
        due("now", x.meets(0, 1), 0);
        say(23, "QUIET. NONE: not by then.");
        due("nine", x.quiet(), 9);
        x.send(1, 9);
        due("now", x.quiet(), 0);
        say(24, "CARGO by n (0 to 60). BAD.");
        due("by 0", x.cargo(0), 2);
        due("by 60", x.cargo(60), 2);
        x.fill(1, 50);
        x.send(1, 0);
        due("by 1", x.cargo(1), 50);
        due("by 60", x.cargo(60), 2 + 50 - 18);
    }

    private static void promises25To27Choices() {
        SilenceCanal x = told("barge at 0 for 9 load 90;noise 9 is 9;");
        say(25, "STILL FOR one, n (1 to 30). BAD; NONE: by none.");
        due("by 1", x.stillFor(0, 1), 1);
        due("by 8", x.stillFor(0, 8), 1);
        due("by 9", x.stillFor(0, 9), 9);
        due("by 30", x.stillFor(0, 30), 9);
        x.send(0, 0);
        due("by none", x.stillFor(0, 30), -3);
        say(26, "KIND FOR one, n (1 to 30). BAD.");
        due("all the same", x.kindFor(0, 30), 0);
        x.send(0, 9);
        due("by 1", x.kindFor(0, 1), 3);
        // A bishop goes two an hour: by 1 it gains 1 at two locks; the lover spills 1 at two.
        due("by 30", x.kindFor(0, 30), 3);
        say(27, "LOAD FOR one, n (1 to 30), v (0 to 99). BAD; NONE: with none.");
        due("by 1", x.loadFor(0, 1, 97), 99);
        due("by 1, too much", x.loadFor(0, 1, 98), -3);
        due("by 30: 16 and 9 less", x.loadFor(0, 30, 74), 99);
        due("by 30, too much", x.loadFor(0, 30, 75), -3);
        due("nothing", x.loadFor(0, 30, 0), 0);
        due("one", x.loadFor(0, 30, 1), 26);
        x.send(0, 0);
        due("the most", x.loadFor(0, 30, 99), 99);
    }

    private static void promises28And29Choices() {
        say(28, "HUSHED FOR n (1 to 20), v (0 to 999). BAD; NONE: by no set.");
        SilenceCanal x = told("barge at 0 for 9 load 90;");
        due("nothing is enough", x.hushedFor(20, 0), 0);
        due("as it is", x.hushedFor(20, 72), 0);
        due("one", x.hushedFor(20, 73), 2);
        due("all", x.hushedFor(20, 90), 1022);
        due("by no set", x.hushedFor(20, 91), -3);
        due("by no set", x.hushedFor(20, 999), -3);
        due("by 1", x.hushedFor(1, 89), 2);
        SilenceCanal y = new SilenceCanal();
        for (int i = 0; i < 8; i++) {
            y.barge(0, 99, 0, 0);
        }
        due("the most there can be", y.hushedFor(20, 792), 0);
        due("more than there can be", y.hushedFor(20, 793), -3);
        say(29, "HOLD FOR n (1 to 30). BAD; NONE: nobody.");
        due("nobody goes", y.holdFor(30), -3);
        y.send(7, 1);
        due("the last", y.holdFor(30), 7);
        y.send(3, 1);
        due("of two the least", y.holdFor(1), 3);
        y.noise(1, 0);
        due("nobody loses", y.holdFor(1), -3);
    }

    private static void promise30Fits() {
        say(30, "FITS: what = 0 how many numbers, 1 the least.");
        SilenceCanal x = told("barge at 0 for 9;");
        x.sheet(0, 0, 1);
        due("0 to 2", x.fits(0, 0, 0), 3);
        due("0", x.fits(0, 0, 1), 0);
        x.put(0, 0, 97);
        due("99", x.fits(0, 0, 0), 1);
        due("99", x.fits(0, 0, 1), 99);
        say(30, "BAD: no such SHEET, one, what; -11; NONE (what 1): none.");
        x.put(0, 0, 98);
        due("none", x.fits(0, 0, 0), 0);
        due("none", x.fits(0, 0, 1), -3);
        due("missing, how many", x.fits(1, 0, 0), -11);
        due("missing, the least", x.fits(1, 0, 1), -11);
        due("no such one", x.fits(1, 1, 0), -1);
        due("no sheet", x.fits(4, 0, 0), -1);
        due("no what", x.fits(1, 0, 2), -1);
        due("no barges", new SilenceCanal().fits(0, 0, 0), -1);
    }

    private static void promises31And32Odds() {
        say(31, "ODDS by n (0 to 8), k (0 to n): a part of them. BAD.");
        SilenceCanal x = new SilenceCanal();
        x.set(3, 33);
        // The odds of all k are 1 together; below the line each divides 100 to the n.
        for (int n = 0; n <= 8; n++) {
            long whole = 1;
            for (int i = 0; i < n; i++) {
                whole *= 100;
            }
            long sum = 0;
            for (int k = 0; k <= n; k++) {
                sum += x.odds(n, k, 0) * (whole / x.odds(n, k, 1));
            }
            due("all together, of " + n, sum, whole);
        }
        due("k above n", x.odds(0, 1, 0), -1);
        due("k above n", x.odds(7, 8, 0), -1);
        due("k is n", x.odds(1, 1, 0), 33);
        say(32, "HOPE by n (0 to 99): a part of it. BAD.");
        due("0", x.hope(0, 0), 0);
        due("0 by 1", x.hope(0, 1), 1);
        due("1", x.hope(1, 0), 33);
        due("by a hundred", x.hope(1, 1), 100);
        due("99", x.hope(99, 0), 3267);
        due("50", x.hope(50, 0), 33);
        due("by 2", x.hope(50, 1), 2);
        x.set(3, 50);
        due("98 by a half", x.hope(98, 0), 49);
        due("98 by a half", x.hope(98, 1), 1);
    }

    private static void promises33To36Rows() {
        say(33, "ROWS of one by n HOURS (1 to 10): how many. BAD.");
        SilenceCanal x = told("barge at 0 for 9 load 50;");
        due("one", x.prove(0, 1), 1);
        due("ten", x.prove(0, 10), 10);
        due("ten", x.many(4), 10);
        say(34, "Of ROW i: what = 0 its LOCK, 1 LOAD, 2 LOST AT all together. -9: there is none such, another what.");
        for (int i = 0; i < 10; i++) {
            int gone = Math.min(9, i + 1);
            due("lock of " + i, x.row(i, 0), gone);
            due("load of " + i, x.row(i, 1), 50 - 2 * gone);
            due("lost of " + i, x.row(i, 2), 2 * gone);
        }
        due("no eleventh", x.row(10, 0), -9);
        x.prove(0, 1);
        due("no second any more", x.row(1, 0), -9);
        due("none of none", new SilenceCanal().row(0, 0), -9);
        say(35, "It becomes v: what it was. -9 likewise.");
        due("1", x.alterRow(0, 0, MIN), 1);
        due("the least", x.alterRow(0, 0, MAX), MIN);
        due("the greatest", x.alterRow(0, 0, 1), MAX);
        due("48", x.alterRow(0, 1, 48), 48);
        due("2", x.alterRow(0, 2, 2), 2);
        due("no second", x.alterRow(1, 0, 5), -9);
        due("no what", x.alterRow(0, 3, 5), -9);
        due("none of none", new SilenceCanal().alterRow(0, 0, 5), -9);
        x.prove(0, 2);
        due("the second was not altered", x.row(1, 0), 2);
        say(36, "THE READER takes ROWS: 0 all is right (also if there are none); else the first ROW that isn't, and 1 more. BAD.");
        x.prove(0, 10);
        due("right", x.judge(0), 0);
        for (int i = 9; i >= 0; i--) {
            x.alterRow(i, i % 3, -1);
            due("the first that isn't", x.judge(0), i + 1);
        }
        Check.feedText(x, "mute at 0 for 9;");
        x.canal();
        due("there are none", x.judge(0), 0);
        due("no such one, though there are none", x.judge(1), -1);
    }

    private static void promise37Minds() {
        say(37, "n numbers (0 to 8) of a SHEET taken for bytes, from i on, become LOAD of BARGES from one on (held to 0 to 99): n.");
        SilenceCanal x = new SilenceCanal();
        for (int i = 0; i < 8; i++) {
            x.barge(0, 50, 0, 9);
        }
        x.sheet(0, 0, 40);
        int[] numbers = {-128, -1, 0, 1, 98, 99, 100, 127};
        int[] loads = {0, 0, 0, 1, 98, 99, 99, 99};
        for (int i = 0; i < 8; i++) {
            x.put(0, 32 + i, numbers[i]);
        }
        due("eight, the last of forty", x.minds(0, 32, 0, 8), 8);
        for (int i = 0; i < 8; i++) {
            due("held, " + numbers[i], x.of(i, 1), loads[i]);
        }
        x.put(0, 0, 200);
        due("one", x.minds(0, 0, 7, 1), 1);
        due("200 is -56 as a byte", x.of(7, 1), 0);
        due("none", x.minds(0, 0, 0, 0), 0);
        due("none, behind the last", x.minds(0, 40, 7, 0), 0);
        due("nothing has changed", x.of(5, 1), 99);
        due("nothing is lost by it", x.state(2), 0);
        say(37, "BAD: no such SHEET, one, n, or n goes beyond the last one; -11; -13;");
        due("nine", x.minds(0, 0, 0, 9), -1);
        due("eight from the second on", x.minds(0, 0, 1, 8), -1);
        due("two from the last on", x.minds(0, 0, 7, 2), -1);
        due("none from behind the last", x.minds(0, 0, 8, 0), -1);
        due("far beyond", x.minds(0, 0, 7, MAX), -1);
        due("no barges, none", new SilenceCanal().minds(0, 0, 0, 0), -1);
        due("missing", x.minds(1, 0, 0, 0), -11);
        for (int sort = 1; sort < 4; sort++) {
            x.sheet(1, sort, 8);
            due("of sort " + sort, x.minds(1, 0, 0, 0), -13);
        }
        say(37, "-12: i is not 0 to how many items there are (also for n 0), or there are not so many.");
        due("41", x.minds(0, 41, 0, 0), -12);
        due("-1", x.minds(0, -1, 0, 0), -12);
        due("one behind the last", x.minds(0, 40, 0, 1), -12);
        due("eight from 33", x.minds(0, 33, 0, 8), -12);
        due("far", x.minds(0, MAX, 0, 8), -12);
        due("far below", x.minds(0, MIN, 0, 8), -12);
        x.sheet(0, 0, 0);
        due("none of an empty one", x.minds(0, 0, 0, 0), 0);
        due("one of an empty one", x.minds(0, 0, 0, 1), -12);
        due("none of an empty one, for the last", x.minds(0, 0, 7, 0), 0);
        x.sheet(0, 0, 1);
        due("the only one, for the last", x.minds(0, 0, 7, 1), 1);
    }

    private static void promise38Sheet() {
        say(38, "A SHEET becomes a row of n of a sort, all 0, or missing (sort -1; n counts nothing then): 1.");
        SilenceCanal x = new SilenceCanal();
        for (int sort = 0; sort < 4; sort++) {
            due("forty", x.sheet(3, sort, 40), 1);
            for (int i = 0; i < 40; i++) {
                due("all 0", x.item(3, sort, i), 0);
                x.put(3, i, 1 + i);
            }
        }
        x.sheet(3, 3, 1);
        due("all 0 anew", x.item(3, 3, 0), 0);
        x.sheet(3, 3, 40);
        due("all 0, also what was beyond", x.item(3, 3, 39), 0);
        int[] any = {MIN, -1, 0, 41, MAX};
        for (int n : any) {
            x.sheet(3, 0, 1);
            due("missing", x.sheet(3, -1, n), 1);
            due("missing", x.item(3, 0, 0), -11);
        }
        due("none of a sort", x.sheet(3, 2, 0), 1);
        due("it is not missing", x.item(3, 2, 0), -12);
        say(38, "BAD: no such SHEET, sort, n above 40; -14.");
        due("41", x.sheet(3, 2, 41), -1);
        due("-1", x.sheet(3, 2, -1), -14);
        due("the least", x.sheet(3, 2, MIN), -14);
        due("no such sheet to be missing", x.sheet(4, -1, 0), -1);
        due("others are missing still", x.item(0, 0, 0), -11);
    }

    private static void promises39And40Items() {
        say(39, "Item i becomes v, narrowed to its sort: 1.");
        say(40, "Item i, taken for a sort (0 to 3; of longs the lowest 32 bits).");
        int[] given = {0, 1, -1, 127, 128, 255, 256, -128, -129, 32767, 32768, 65535, 65536, -32769, MIN, MAX};
        SilenceCanal x = new SilenceCanal();
        for (int sort = 0; sort < 4; sort++) {
            x.sheet(sort, sort, given.length);
            for (int i = 0; i < given.length; i++) {
                due("put", x.put(sort, i, given[i]), 1);
                int want = sort == 0 ? (given[i] + 128 & 255) - 128 : sort == 1 ? (given[i] + 32768 & 65535) - 32768 : given[i];
                due(given[i] + " in sort " + sort, x.item(sort, sort, i), want);
            }
        }
        due("the one before it stays", x.item(2, 2, 0), 0);
        say(39, "BAD: no such SHEET; -11; -12.");
        due("no sheet", x.put(4, 0, 0), -1);
        due("behind the last", x.put(0, given.length, 0), -12);
        due("before the first", x.put(0, -1, 0), -12);
        x.sheet(0, -1, 0);
        due("missing", x.put(0, 0, 0), -11);
        say(40, "BAD: no such SHEET, sort; -11; -13; -12. (An item may be as low as these, too.)");
        due("missing", x.item(0, 0, 0), -11);
        due("another sort", x.item(1, 2, 0), -13);
        due("behind the last", x.item(1, 1, given.length), -12);
        due("before the first", x.item(1, 1, -1), -12);
        int[] low = {-1, -2, -3, -11, -12, -13, -14, -15};
        x.sheet(0, 0, 8);
        for (int i = 0; i < 8; i++) {
            x.put(0, i, low[i]);
            due("as low as these", x.item(0, 0, i), low[i]);
        }
    }

    private static void promises41And42Shelves() {
        say(41, "A SHELF holds one of the BARGES (what 0, its number n), the row of SHEET n (1; nothing, if missing), nothing (2): 1.");
        SilenceCanal x = told("barge at 0 for 9;".repeat(8));
        due("the last one", x.shelf(0, 0, 7), 1);
        due("the first one, on the last shelf", x.shelf(3, 0, 0), 1);
        due("the one", x.taken(0, 0), 7);
        due("the other", x.taken(3, 0), 0);
        x.sheet(3, 1, 6);
        due("a row", x.shelf(0, 1, 3), 1);
        due("a row, not one of the barges", x.taken(0, 0), -13);
        due("how many", x.taken(0, 11), 6);
        due("a missing one", x.shelf(0, 1, 2), 1);
        due("nothing", x.taken(0, 11), -11);
        x.shelf(0, 0, 7);
        int[] any = {MIN, -1, 0, 99, MAX};
        for (int n : any) {
            x.shelf(0, 0, 7);
            due("nothing, whatever n", x.shelf(0, 2, n), 1);
            due("nothing", x.taken(0, 0), -11);
        }
        x.sheet(2, 0, 2);
        due("it was missing then", x.taken(0, 10), -11);
        say(41, "BAD: no such SHELF, what, thing.");
        due("no ninth", x.shelf(3, 0, 8), -1);
        due("no fifth sheet", x.shelf(3, 1, 4), -1);
        due("a sheet's number is not a barge's", x.shelf(3, 1, 7), -1);
        due("no shelf", x.shelf(4, 2, 0), -1);
        due("it holds what it held", x.taken(3, 0), 0);
        say(42, "What a SHELF holds taken for a thing of KIND as (0 to 5, or one under it): its number; for a row of sort as - 10 (as 10 to 13): how many items.");
        for (int sort = 0; sort < 4; sort++) {
            x.sheet(0, sort, sort == 0 ? 0 : 40);
            x.shelf(1, 1, 0);
            for (int as = 10; as < 14; as++) {
                due(sort + " as " + as, x.taken(1, as), as != 10 + sort ? -13 : sort == 0 ? 0 : 40);
            }
            for (int as = 0; as < 6; as++) {
                due("a row is no thing", x.taken(1, as), -13);
            }
        }
        due("one is no row", x.taken(3, 10), -13);
        say(42, "BAD: no such SHELF, as; -11; -13.");
        int[] no = {-1, 6, 9, 14};
        for (int as : no) {
            due("no such as " + as, x.taken(3, as), -1);
            due("no such as " + as + ", for nothing", x.taken(2, as), -1);
        }
        due("nothing", x.taken(2, 13), -11);
    }

    private static void promises43And44Acts() {
        say(43, "An ACT (0 to 3) of the thing on a SHELF, with x. 0, and no TRACE then: no such SHELF, act, nothing, a row.");
        SilenceCanal x = told("mute at 0 for 9;mute at 3 for 9;");
        x.shelf(3, 0, 1);
        x.sheet(0, 0, 3);
        x.shelf(1, 1, 0);
        int[][] wrong = {{4, 0}, {-1, 0}, {MAX, 0}, {MIN, 0}, {3, 4}, {3, -1}, {3, MAX}, {3, MIN}, {0, 0}, {1, 0}, {1, 3}};
        for (int[] call : wrong) {
            due("an act", x.act(3, 1, 5), -(15 + 1 - 6));
            due("its trace", x.many(6), 3);
            due("refused: " + call[0] + ", " + call[1], x.act(call[0], call[1], 5), 0);
            due("no trace then", x.many(6), 0);
            due("no first body", x.trace(0), -3);
        }
        due("an act may answer 0, too", x.act(3, 2, 1), 0);
        due("then there is a trace", x.trace(0), 12);
        say(44, "THE TRACE's i-th body. NONE.");
        x.act(3, 3, 5);
        int[] bodies = {13, 20, 11, 10};
        for (int i = 0; i < 4; i++) {
            due("body " + i, x.trace(i), bodies[i]);
        }
        int[] none = {4, 29, 30, 31, -1, MIN, MAX};
        for (int i : none) {
            due("no body " + i, x.trace(i), -3);
        }
    }

    private static void promise45Many() {
        say(45, "How many: what = 0 BARGES, 1 those that have LANDED, 2 LOCKS AT which one is, 3 LOCKS AT which anything was LOST, 4 ROWS, 5 bytes of THE TAPE, 6 bodies of THE TRACE.");
        SilenceCanal x = new SilenceCanal();
        for (int what = 0; what < 7; what++) {
            due("none, " + what, x.many(what), 0);
        }
        for (int i = 0; i < 8; i++) {
            x.barge(0, 99, i + 1, i == 7 ? 9 : i);
        }
        due("eight", x.many(0), 8);
        due("none has landed", x.many(1), 0);
        due("eight locks", x.many(2), 8);
        due("nothing lost", x.many(3), 0);
        x.hours(1);
        due("all have landed", x.many(1), 8);
        due("eight locks", x.many(2), 8);
        due("lost at 0 to 6 and 9", x.many(3), 8);
        x.bring(0, 9);
        due("seven locks", x.many(2), 7);
        due("one has not", x.many(1), 7);
        x.prove(0, 10);
        due("ten rows", x.many(4), 10);
        Check.feedText(x, " ".repeat(200));
        due("200 bytes", x.many(5), 200);
        x.mind(6, 4, 0);
        x.shelf(0, 0, 6);
        x.bring(6, 9);
        x.act(0, 3, 1);
        due("eleven bodies", x.many(6), 11);
        say(45, "BAD: another what.");
        due("7", x.many(7), -1);
        due("-1", x.many(-1), -1);
    }

    private static void promise46Keep() {
        say(46, "All but THE TAPE, ROWS, SHEETS, SHELVES, THE TRACE is kept: 1.");
        SilenceCanal x = new SilenceCanal();
        due("nothing but what is at first", x.keep(), 1);
        x.barge(3, 33, 3, 4);
        x.mind(0, 3, 1);
        x.set(0, 9);
        x.set(1, 8);
        x.set(2, 7);
        x.set(3, 66);
        x.noise(0, 5);
        x.hours(3);
        x.seed(-6);
        due("no barges were kept", x.again(), 0);
        int[] first = {3, 2, 1, 20};
        for (int law = 0; law < 4; law++) {
            due("laws", x.lawOf(law), first[law]);
        }
        due("noise", x.lock(0, 0), 2);
        due("lost", x.state(2), 0);
        due("hour", x.state(0), 0);
        due("z", x.seed(1), 1);
        Check.feedText(x, "mute at 1 for 3;");
        x.keep();
        due("the tape is as it is", x.canal(), 1);
        x.sheet(0, 0, 3);
        x.shelf(0, 0, 0);
        x.prove(0, 3);
        x.act(0, 0, 1);
        x.keep();
        x.sheet(0, 1, 4);
        x.shelf(0, 1, 0);
        x.alterRow(0, 0, 7);
        x.act(0, 0, 1);
        x.feed(32, 1);
        x.again();
        due("sheets are as they are", x.item(0, 1, 3), 0);
        due("shelves are as they are", x.taken(0, 11), 4);
        due("rows are as they are", x.row(0, 0), 7);
        due("the trace is as it is", x.many(6), 0);
        due("the tape is as it is", x.many(5), 1);
    }

    private static void promise47Again() {
        say(47, "It becomes what was kept latest (which stays): how many BARGES. NONE: nothing is kept.");
        SilenceCanal x = told("barge at 0 for 9;barge at 9 for 0 other;");
        due("nothing is kept", x.again(), -3);
        due("nothing changes", x.many(0), 2);
        x.hours(1);
        x.keep();
        for (int round = 0; round < 3; round++) {
            x.hours(5);
            x.barge(0, 1, 1, 1);
            x.noise(5, round);
            due("two", x.again(), 2);
            due("no third", x.of(2, 0), -1);
            due("at 1", x.of(0, 3), 1);
            due("hour 1", x.state(0), 1);
            due("noise", x.lock(5, 0), 2);
            due("lost", x.state(2), 4);
            due("sort", x.of(1, 2), 1);
        }
        x.barge(0, 1, 1, 1);
        x.keep();
        x.canal();
        due("the latest, also behind canal()", x.again(), 3);
        Check.feedText(x, "wrong");
        x.canal();
        due("and behind a fault", x.again(), 3);
        for (int i = 3; i < 8; i++) {
            x.barge(5, 5, 5, i);
        }
        x.keep();
        x.canal();
        due("eight", x.again(), 8);
        due("the last one", x.of(7, 4), 7);
        due("full", x.barge(0, 0, 0, 0), -2);
    }
}
