import java.util.List;
import java.util.function.Supplier;
import java.util.function.ToLongFunction;

/**
 * Refusals: that a refused call changes nothing, that of several refusals the first named is answered, and that
 * what is only asked or tried changes nothing either. Each call is made on an object of its own, and all that can
 * be seen of it then must be as on one without that call.
 */
public final class RefusalsTest {
    private static final Check CHECK = new Check("RefusalsTest", new Doc());
    private static final int MIN = Integer.MIN_VALUE, MAX = Integer.MAX_VALUE;

    public static void main(String[] args) {
        CHECK.sentence("Terms", "such a call changes nothing");
        refusedOfTapeAndLaws();
        refusedOfBarges();
        refusedOfTries();
        refusedOfRows();
        refusedOfSheets();
        refusedOfShelves();
        refusedByFaults();
        CHECK.sentence("Terms 2", "What is asked here is TRIED; nothing changes.");
        triedChangesNothing();
        CHECK.sentence("Terms", "of several the first named at the call");
        firstNamed();
        CHECK.end();
    }

    /** All that there is, each thing unlike what it is at first: 3 barges, rows, sheets, shelves, trace, kept, tape. */
    private static SilenceCanal ready() {
        SilenceCanal x = readyWithoutTape();
        Check.feedText(x, "mute at 3 for 5 load 8 other; lover at 1 for 0;");
        return x;
    }

    private static SilenceCanal readyWithoutTape() {
        SilenceCanal x = Check.told("barge at 0 for 9 load 70;mute at 2 for 8 other;noise 4 is 7;echo 5;hush 6;wind 7;laugh 33;");
        x.hours(2);
        x.keep();
        x.barge(4, 44, 9, 1);
        x.noise(5, 8);
        x.set(0, 4);
        x.hour();
        sheetsAndShelves(x);
        x.prove(1, 3);
        x.act(0, 3, 77);
        return x;
    }

    private static void sheetsAndShelves(SilenceCanal x) {
        x.sheet(0, 0, 3);
        x.sheet(1, 1, 4);
        x.sheet(3, 3, 0);
        for (int i = 0; i < 3; i++) {
            x.put(0, i, 11 + i);
            x.put(1, i, 21 + i);
        }
        x.shelf(0, 0, 1);
        x.shelf(1, 1, 1);
        x.shelf(3, 0, 2);
    }

    /** The same with eight barges. */
    private static SilenceCanal crowded() {
        SilenceCanal x = ready();
        for (int i = 3; i < 8; i++) {
            x.barge(i % 6, 10 * i, i, 9 - i);
        }
        return x;
    }

    /** A tape of 197 bytes. */
    private static SilenceCanal fed() {
        SilenceCanal x = new SilenceCanal();
        Check.feedText(x, " ".repeat(160) + "dealer at 3 for 5 load 8 other;      ");
        return x;
    }

    private static void unchanged(String what, Supplier<SilenceCanal> made, ToLongFunction<SilenceCanal> call, long want) {
        SilenceCanal x = made.get();
        CHECK.due(what, call.applyAsLong(x), want);
        same(what, Seen.of(made.get()), Seen.of(x));
    }

    private static void same(String what, List<String> want, List<String> got) {
        CHECK.due(what + ": as many things", got.size(), want.size());
        for (int i = 0; i < want.size() && i < got.size(); i++) {
            CHECK.holds(what + ": " + got.get(i) + ", before it was " + want.get(i), got.get(i).equals(want.get(i)));
        }
    }

    private static void refused(String what, ToLongFunction<SilenceCanal> call, long want) {
        unchanged(what, RefusalsTest::ready, call, want);
    }

    private static void refusedOfTapeAndLaws() {
        refused("feed none", x -> x.feed(0x6161616161L, 0), -1);
        refused("feed nine", x -> x.feed(0x6161616161L, 9), -1);
        refused("feed below", x -> x.feed(0x6161616161L, -1), -1);
        unchanged("feed beyond 200", RefusalsTest::fed, x -> x.feed(0x61616161L, 4), -2);
        unchanged("feed far beyond 200", RefusalsTest::fed, x -> x.feed(0x6161616161616161L, 8), -2);
        refused("set no law", x -> x.set(4, 1), -1);
        refused("set below", x -> x.set(-1, 1), -1);
        refused("set too much", x -> x.set(0, 10), -1);
        refused("set laugh too much", x -> x.set(3, 100), -1);
        refused("set below 0", x -> x.set(2, -1), -1);
        refused("lawOf", x -> x.lawOf(4), -1);
        unchanged("again, nothing kept", RefusalsTest::fed, x -> x.again(), -3);
    }

    private static void refusedOfBarges() {
        refused("barge of no kind", x -> x.barge(6, 1, 1, 1), -1);
        refused("barge of too much", x -> x.barge(1, 100, 1, 1), -1);
        refused("barge at no lock", x -> x.barge(1, 1, 10, 1), -1);
        refused("barge bound for no lock", x -> x.barge(1, 1, 1, -1), -1);
        unchanged("a ninth", RefusalsTest::crowded, x -> x.barge(1, 1, 1, 1), -2);
        refused("of no one", x -> x.of(3, 1), -1);
        refused("of no what", x -> x.of(0, 6), -1);
        refused("does no what", x -> x.does(0, 2), -1);
        refused("mind no one", x -> x.mind(3, 1, 1), -1);
        refused("mind no kind", x -> x.mind(0, 6, 1), -1);
        refused("mind no sort, though the kind is one", x -> x.mind(0, 5, 2), -1);
        refused("mind no kind, though the sort is one", x -> x.mind(0, -1, 1), -1);
        refused("fill no one", x -> x.fill(3, 1), -1);
        refused("fill too much", x -> x.fill(0, 100), -1);
        refused("fill below 0", x -> x.fill(0, -1), -1);
        refused("bring no one", x -> x.bring(-1, 1), -1);
        refused("bring to no lock", x -> x.bring(0, 10), -1);
        refused("send no one", x -> x.send(3, 1), -1);
        refused("send to no lock", x -> x.send(0, -1), -1);
        refused("noise of no lock", x -> x.noise(10, 1), -1);
        refused("noise too much", x -> x.noise(1, 10), -1);
        refused("lock, no what", x -> x.lock(1, 3), -1);
        refused("hours, none", x -> x.hours(0), -1);
        refused("hours, too many", x -> x.hours(61), -1);
        refused("spoilt, none", x -> x.spoilt(0), -1);
        refused("spoilt, too many", x -> x.spoilt(31), -1);
        refused("state, no what", x -> x.state(6), -1);
        refused("many, no what", x -> x.many(7), -1);
    }

    private static void refusedOfTries() {
        refused("freight, too far", x -> x.freight(0, 61), -1);
        refused("lands, no one", x -> x.lands(3), -1);
        refused("meets, the same", x -> x.meets(1, 1), -1);
        refused("cargo, too far", x -> x.cargo(61), -1);
        refused("stillFor, too far", x -> x.stillFor(0, 31), -1);
        refused("kindFor, too far", x -> x.kindFor(0, 31), -1);
        refused("loadFor, too far", x -> x.loadFor(0, 31, 1), -1);
        refused("loadFor, too much", x -> x.loadFor(0, 3, 100), -1);
        refused("loadFor, with none", x -> x.loadFor(0, 30, 99), -3);
        refused("hushedFor, too far", x -> x.hushedFor(21, 1), -1);
        refused("hushedFor, too much", x -> x.hushedFor(1, 1000), -1);
        refused("hushedFor, by no set", x -> x.hushedFor(1, 999), -3);
        refused("holdFor, too far", x -> x.holdFor(31), -1);
        refused("fits, no sheet", x -> x.fits(4, 0, 0), -1);
        refused("fits, missing", x -> x.fits(2, 0, 0), -11);
        refused("fits, none", x -> x.fits(1, 0, 1), -3);
        refused("odds, no n", x -> x.odds(9, 0, 0), -1);
        refused("hope, no n", x -> x.hope(100, 0), -1);
    }

    private static void refusedOfRows() {
        refused("prove, no one", x -> x.prove(3, 2), -1);
        refused("prove, none", x -> x.prove(0, 0), -1);
        refused("prove, too many", x -> x.prove(0, 11), -1);
        refused("row, none such", x -> x.row(3, 0), -9);
        refused("alterRow, none such", x -> x.alterRow(3, 0, 5), -9);
        refused("alterRow, below", x -> x.alterRow(-1, 0, 5), -9);
        refused("alterRow, another what", x -> x.alterRow(0, 3, 5), -9);
        refused("alterRow, what below", x -> x.alterRow(1, -1, 5), -9);
        refused("judge, no one", x -> x.judge(3), -1);
        refused("trace, none", x -> x.trace(30), -3);
    }

    private static void refusedOfSheets() {
        refused("minds, no sheet", x -> x.minds(4, 0, 0, 1), -1);
        refused("minds, no one", x -> x.minds(0, 0, 3, 1), -1);
        refused("minds, beyond the last one", x -> x.minds(0, 0, 1, 3), -1);
        refused("minds, missing", x -> x.minds(2, 0, 0, 1), -11);
        refused("minds, of shorts", x -> x.minds(1, 0, 0, 1), -13);
        refused("minds, not so many", x -> x.minds(0, 1, 0, 3), -12);
        refused("minds, below", x -> x.minds(0, -1, 0, 2), -12);
        refused("minds, far above", x -> x.minds(0, MAX, 0, 2), -12);
        refused("sheet, no sort", x -> x.sheet(0, 4, 1), -1);
        refused("sheet, sort below", x -> x.sheet(0, -2, 1), -1);
        refused("sheet of 41", x -> x.sheet(0, 2, 41), -1);
        refused("sheet of below 0", x -> x.sheet(0, 2, -1), -14);
        refused("sheet, no sheet", x -> x.sheet(4, 2, 1), -1);
        refused("put, no sheet", x -> x.put(-1, 0, 1), -1);
        refused("put, missing", x -> x.put(2, 0, 1), -11);
        refused("put, outside", x -> x.put(0, 3, 1), -12);
        refused("put, below", x -> x.put(0, -1, 1), -12);
        refused("put into an empty one", x -> x.put(3, 0, 1), -12);
        refused("item, another sort", x -> x.item(0, 1, 0), -13);
        refused("item, outside", x -> x.item(0, 0, 3), -12);
    }

    private static void refusedOfShelves() {
        refused("shelf, no shelf", x -> x.shelf(4, 0, 0), -1);
        refused("shelf, no what", x -> x.shelf(0, 3, 0), -1);
        refused("shelf, what below", x -> x.shelf(0, -1, 0), -1);
        refused("shelf, no such one", x -> x.shelf(0, 0, 3), -1);
        refused("shelf, no such sheet", x -> x.shelf(0, 1, 4), -1);
        refused("shelf of a row, no such one", x -> x.shelf(1, 0, 3), -1);
        refused("taken, no shelf", x -> x.taken(4, 0), -1);
        refused("taken, no as", x -> x.taken(0, 6), -1);
        refused("taken, nothing", x -> x.taken(2, 0), -11);
        refused("taken, of another kind", x -> x.taken(0, 2), -13);
    }

    private static void refusedByFaults() {
        CHECK.sentence("Terms", "(but that THE TAPE is used up by canal())");
        String[] texts = {"bird", "mute at 1 for 2;echo 1;hush 1;noise 3 is 10;", "mute at 1 for 2;".repeat(9), "echo 9"};
        for (String text : texts) {
            SilenceCanal x = readyWithoutTape();
            Check.feedText(x, text);
            CHECK.holds("a fault in " + text, x.canal() <= -100);
            same("behind a fault in " + text, Seen.of(readyWithoutTape()), Seen.of(x));
        }
    }

    private static void tried(String what, ToLongFunction<SilenceCanal> call) {
        SilenceCanal x = ready();
        call.applyAsLong(x);
        same(what, Seen.of(ready()), Seen.of(x));
        SilenceCanal y = crowded();
        call.applyAsLong(y);
        same(what + ", of eight", Seen.of(crowded()), Seen.of(y));
    }

    private static void triedChangesNothing() {
        tried("freight", x -> x.freight(0, 60));
        tried("lands", x -> x.lands(0));
        tried("meets", x -> x.meets(0, 1));
        tried("quiet", x -> x.quiet());
        tried("cargo", x -> x.cargo(60));
        tried("stillFor", x -> x.stillFor(0, 30));
        tried("kindFor", x -> x.kindFor(0, 30));
        tried("loadFor", x -> x.loadFor(0, 30, 20));
        tried("hushedFor", x -> x.hushedFor(20, 150));
        tried("holdFor", x -> x.holdFor(30));
        tried("fits", x -> x.fits(0, 0, 0));
        tried("odds", x -> x.odds(8, 4, 0));
        tried("hope", x -> x.hope(8, 0));
        tried("judge", x -> x.judge(1));
        tried("judge another", x -> x.judge(0));
        tried("row", x -> x.row(0, 0));
        tried("of", x -> x.of(0, 0));
        tried("does", x -> x.does(0, 1));
        tried("lock", x -> x.lock(0, 2));
        tried("state", x -> x.state(5));
        tried("many", x -> x.many(3));
        tried("item", x -> x.item(0, 0, 0));
        tried("taken", x -> x.taken(0, 0));
        tried("trace", x -> x.trace(0));
        tried("minds, none", x -> x.minds(0, 3, 0, 0));
        CHECK.sentence("Terms 2", "(nothing changes, z neither)");
        tried("spoilt", x -> x.spoilt(30));
    }

    private static void firstNamed() {
        unchanged("feed: BAD, FULL", RefusalsTest::fed, x -> x.feed(0, 9), -1);
        unchanged("barge: BAD, FULL", RefusalsTest::crowded, x -> x.barge(0, 0, 0, 10), -1);
        refused("fits: BAD, -11", x -> x.fits(2, 3, 0), -1);
        refused("fits: BAD, NONE", x -> x.fits(0, 0, 2), -1);
        refused("loadFor: BAD, NONE", x -> x.loadFor(0, 31, 99), -1);
        refused("hushedFor: BAD, NONE", x -> x.hushedFor(21, 999), -1);
        refused("minds: BAD, -11", x -> x.minds(2, 9, 3, 1), -1);
        refused("minds: BAD, -13", x -> x.minds(1, 0, 0, 4), -1);
        refused("minds: BAD, -12", x -> x.minds(0, 4, 0, -1), -1);
        refused("minds: -11, -12", x -> x.minds(2, 9, 0, 1), -11);
        refused("minds: -13, -12", x -> x.minds(1, 9, 0, 1), -13);
        refused("sheet: BAD for the sheet, -14", x -> x.sheet(4, 0, -1), -1);
        refused("sheet: BAD for the sort, -14", x -> x.sheet(0, 4, MIN), -1);
        refused("put: BAD, -11, -12", x -> x.put(4, 9, 1), -1);
        refused("put: -11, -12", x -> x.put(2, 9, 1), -11);
        refused("item: BAD for the sort, -11", x -> x.item(2, 4, 0), -1);
        refused("item: BAD for the sort, -13", x -> x.item(0, 4, 0), -1);
        refused("item: BAD for the sort, -12", x -> x.item(0, -1, 9), -1);
        refused("item: -11, -12", x -> x.item(2, 0, 9), -11);
        refused("item: -13, -12", x -> x.item(0, 1, 9), -13);
        refused("taken: BAD, -11", x -> x.taken(2, 6), -1);
        refused("taken: BAD, -13", x -> x.taken(0, 14), -1);
        refused("taken: -11, -13", x -> x.taken(2, 10), -11);
    }
}
