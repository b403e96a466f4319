/** The sentences of 'Terms' 3: ROWS, ACTS, THE TRACE, SHEETS and SHELVES, at the edges that they name. */
final class ActTerms {
    private static final int MIN = Integer.MIN_VALUE, MAX = Integer.MAX_VALUE;
    private static final int FLOATS = 0, SLOPS = 1, PARTS = 2, LANDS = 3;
    private final Check check;

    private ActTerms(Check check) {
        this.check = check;
    }

    static void all(Check check) {
        ActTerms terms = new ActTerms(check);
        terms.rows();
        terms.reader();
        terms.held();
        terms.bodiesOfBarge();
        terms.bodiesOfMuteAndBishop();
        terms.bodiesOfLoverAndMiller();
        terms.bodiesOfDealer();
        terms.partedByZero();
        terms.trace();
        terms.sheets();
        terms.shelves();
    }

    private void say(String words) {
        check.sentence("Terms 3", words);
    }

    private void due(String what, long got, long want) {
        check.due(what, got, want);
    }

    private void rows() {
        say("ROWS of one: (its LOCK, LOAD, LOST AT all LOCKS together) behind 1, 2, .. n HOURS, tried.");
        SilenceCanal x = Check.told("barge at 0 for 2 load 5;barge at 9 for 0 load 50;noise 1 is 3;noise 2 is 3;");
        x.hours(1);
        due("two rows", x.prove(0, 2), 2);
        int[][] want = {{2, 0, 9}, {2, 0, 11}};
        for (int i = 0; i < 2; i++) {
            for (int what = 0; what < 3; what++) {
                due("row " + i + ", " + what, x.row(i, what), want[i][what]);
            }
        }
        due("tried: the hour", x.state(0), 1);
        due("tried: lost", x.state(2), 5);
        due("what was lost before counts too", x.row(0, 2) - x.state(2), 4);
        due("one that has landed", Check.told("mute at 3 for 3;").prove(0, 10), 10);
    }

    private void reader() {
        say("THE READER takes ROWS as those of one, from how it is now: right is one that is as it must be.");
        SilenceCanal x = Check.told("barge at 0 for 9;barge at 0 for 9;mute at 0 for 9;");
        x.prove(0, 5);
        due("of it", x.judge(0), 0);
        due("of one that is as it", x.judge(1), 0);
        due("of one whose load is another", x.judge(2), 1);
        x.keep();
        x.hours(1);
        due("from how it is now", x.judge(0), 1);
        x.again();
        due("from how it was", x.judge(0), 0);
        x.fill(2, 49);
        due("another's load counts nothing", x.judge(0), 0);
        x.fill(2, 1);
        due("but what is lost of it does: 1 and 0, not 1 and 1", x.judge(0), 2);
    }

    private SilenceCanal held(int kind, int number, int lock) {
        SilenceCanal x = new SilenceCanal();
        for (int i = 0; i <= number; i++) {
            x.barge(i == number ? kind : 0, 0, i == number ? lock : 0, 0);
        }
        x.shelf(0, 0, number);
        return x;
    }

    private void act(SilenceCanal x, int act, int with, int want, int... bodies) {
        String what = "act " + act + " with " + with;
        due(what, x.act(0, act, with), want);
        due(what + ", bodies", x.many(6), bodies.length);
        for (int i = 0; i < bodies.length; i++) {
            due(what + ", body " + i, x.trace(i), bodies[i]);
        }
        due(what + ", no more", x.trace(bodies.length), -3);
    }

    private void held() {
        say("One of the BARGES is held as a thing of the KIND; n: the number, a: its LOCK.");
        SilenceCanal x = held(0, 0, 3);
        act(x, FLOATS, 0, 0, 10);
        act(held(0, 7, 3), FLOATS, 0, 7, 10);
        act(x, SLOPS, 0, -6, 11, 10);
        x.bring(0, 9);
        act(x, SLOPS, 0, -18, 11, 10);
        x.mind(0, 2, 0);
        act(x, FLOATS, 0, 4, 30, 10);
        say("ACTS of things, with a number x (ints that wrap): 0 floats, 1 slops, 2 parts, 3 lands.");
        x = held(0, 7, 3);
        act(x, FLOATS, MAX, MAX * 3 + 7, 10);
        act(x, FLOATS, MIN, MIN * 3 + 7, 10);
        act(x, SLOPS, MAX, MAX * 3 + 7 - 6, 11, 10);
        act(held(1, 0, 0), SLOPS, MIN, MIN, 20, 11, 10);
        act(held(4, 7, 3), FLOATS, MAX, (MAX * 3 + 7 + 4) * 2, 40, 30, 10);
        act(held(3, 0, 9), PARTS, MAX, (MAX + 9) / 9, 50, 12);
        act(held(5, 0, 9), LANDS, MAX, ((MAX * 3 - 18) ^ 170) * 5, 60, 13, 11, 10);
        due("no fifth", x.act(0, 4, 1), 0);
        due("none below", x.act(0, -1, 1), 0);
    }

    private void bodiesOfBarge() {
        say("barge: 10 floats: x * 3 + n. 11 slops: floats(x) - a * 2. 12 parts: x by (a - n), cut");
        SilenceCanal x = held(0, 2, 5);
        act(x, FLOATS, 4, 14, 10);
        act(x, SLOPS, 4, 4, 11, 10);
        act(x, PARTS, 8, 2, 12);
        act(x, PARTS, -8, -2, 12);
        say("13 lands: slops(x) ^ 170.");
        act(x, LANDS, 4, 4 ^ 170, 13, 11, 10);
        act(x, LANDS, -4, -20 ^ 170, 13, 11, 10);
    }

    private void bodiesOfMuteAndBishop() {
        say("mute: 20 slops: 0 - super.slops(x).");
        SilenceCanal x = held(1, 2, 5);
        act(x, FLOATS, 4, 14, 10);
        act(x, SLOPS, 4, -4, 20, 11, 10);
        act(x, PARTS, 8, 2, 12);
        act(x, LANDS, 4, -4 ^ 170, 13, 20, 11, 10);
        say("bishop: 50 parts: super.parts(x + a) ^ n. 51 floats: super.floats(x) - 7.");
        SilenceCanal y = held(3, 2, 5);
        act(y, FLOATS, 4, 7, 51, 10);
        act(y, SLOPS, 4, 3, 20, 11, 51, 10);
        act(y, PARTS, 7, 4 ^ 2, 50, 12);
        act(y, PARTS, -13, -2 ^ 2, 50, 12);
        act(y, LANDS, 4, 3 ^ 170, 13, 20, 11, 51, 10);
    }

    private void bodiesOfLoverAndMiller() {
        say("lover: 30 floats: super.floats(x) + 4. 31 lands: super.lands(x) - parts(n).");
        SilenceCanal x = held(2, 6, 9);
        act(x, FLOATS, 4, 22, 30, 10);
        act(x, SLOPS, 4, 4, 11, 30, 10);
        act(x, PARTS, 8, 2, 12);
        act(x, LANDS, 4, (4 ^ 170) - 2, 31, 13, 11, 30, 10, 12);
        say("miller: 40 floats: super.floats(x) * 2. 41 slops: super.slops(x) + floats(a).");
        SilenceCanal y = held(4, 6, 9);
        act(y, FLOATS, 4, 44, 40, 30, 10);
        // floats(4) is 44, less 18; floats(9) is (27 + 6 + 4) * 2.
        act(y, SLOPS, 4, 26 + 74, 41, 11, 40, 30, 10, 40, 30, 10);
        act(y, PARTS, -8, -2, 12);
        act(y, LANDS, 4, (100 ^ 170) - 2, 31, 13, 41, 11, 40, 30, 10, 40, 30, 10, 12);
    }

    private void bodiesOfDealer() {
        say("dealer: 60 lands: super.lands(x) * 5. 61 parts: super.parts(x) - floats(n).");
        SilenceCanal x = held(5, 2, 5);
        act(x, FLOATS, 4, 14, 10);
        act(x, SLOPS, 4, 4, 11, 10);
        act(x, PARTS, 8, 2 - 8, 61, 12, 10);
        act(x, LANDS, 4, (4 ^ 170) * 5, 60, 13, 11, 10);
    }

    private void partedByZero() {
        say("(-15 if these are the same; that is all that act() answers then)");
        act(held(0, 0, 0), PARTS, 7, -15, 12);
        act(held(0, 0, 0), PARTS, 0, -15, 12);
        act(held(1, 7, 7), PARTS, 7, -15, 12);
        act(held(2, 3, 3), PARTS, 7, -15, 12);
        act(held(3, 3, 3), PARTS, 7, -15, 50, 12);
        act(held(4, 3, 3), PARTS, 7, -15, 12);
        act(held(5, 3, 3), PARTS, 7, -15, 61, 12);
        act(held(2, 3, 3), LANDS, 7, -15, 31, 13, 11, 30, 10, 12);
        act(held(4, 3, 3), LANDS, 7, -15, 31, 13, 41, 11, 40, 30, 10, 40, 30, 10, 12);
        act(held(0, 3, 3), LANDS, 7, (24 - 6) ^ 170, 13, 11, 10);
        SilenceCanal x = held(0, 3, 3);
        act(x, PARTS, 7, -15, 12);
        x.bring(3, 4);
        act(x, PARTS, 7, 7, 12);
        x.bring(3, 2);
        act(x, PARTS, 7, -7, 12);
        act(x, PARTS, 15, -15, 12);
    }

    private void trace() {
        say("THE TRACE: numbers of the bodies that ran in the latest act(), as they began (left first);");
        SilenceCanal x = held(5, 2, 5);
        due("no act yet", x.many(6), 0);
        due("no act yet", x.trace(0), -3);
        act(x, LANDS, 1, ((3 + 2 - 10) ^ 170) * 5, 60, 13, 11, 10);
        act(x, PARTS, 3, 1 - 8, 61, 12, 10);
        act(x, FLOATS, 1, 5, 10);
        due("of the latest alone", x.trace(1), -3);
        x.hours(1);
        x.mind(2, 0, 0);
        due("it stays till the next", x.trace(0), 10);
        x.act(0, 4, 1);
        due("the latest was none", x.many(6), 0);
        say("the first 30 are kept.");
        // No act runs more than eleven bodies: a miller that lands.
        int most = 0;
        for (int kind = 0; kind < 6; kind++) {
            for (int act = 0; act < 4; act++) {
                SilenceCanal y = held(kind, 6, 9);
                y.act(0, act, 77);
                most = Math.max(most, y.many(6));
                due("the last is kept", y.trace(y.many(6) - 1) > 0 ? 1 : 0, 1);
            }
        }
        due("the most bodies", most, 11);
    }

    private void sheets() {
        say("SHEETS 0 to 3 are rows of bytes (sort 0), shorts (1), ints (2) or longs (3), 40 at most, or missing (at first).");
        int[][] narrowed = {{127, -128, -1, 0}, {127, 128, 255, 256}, {127, 128, 255, 256}, {127, 128, 255, 256}};
        int[][] further = {{-1, 0, 0, -1}, {32767, -32768, 0, -1}, {32767, 32768, MIN, MAX}, {32767, 32768, MIN, MAX}};
        for (int sort = 0; sort < 4; sort++) {
            SilenceCanal x = new SilenceCanal();
            for (int sheet = 0; sheet < 4; sheet++) {
                due("missing at first", x.item(sheet, sort, 0), -11);
                due("40", x.sheet(sheet, sort, 40), 1);
                due("the last", x.item(sheet, sort, 39), 0);
                due("no further one", x.item(sheet, sort, 40), -12);
            }
            int[] near = {127, 128, 255, 256};
            int[] far = {32767, 32768, MIN, MAX};
            for (int i = 0; i < 4; i++) {
                x.put(3, i, near[i]);
                due(near[i] + " in sort " + sort, x.item(3, sort, i), narrowed[sort][i]);
                x.put(3, i, far[i]);
                due(far[i] + " in sort " + sort, x.item(3, sort, i), further[sort][i]);
            }
            due("41", x.sheet(0, sort, 41), -1);
            due("no sheet 4", x.sheet(4, sort, 1), -1);
        }
    }

    private void shelves() {
        say("SHELVES 0 to 3 hold one of the BARGES (by its number; nothing, if there is no such one at the time), a SHEET's row, or nothing (at first).");
        SilenceCanal x = Check.told("barge at 0 for 9;barge at 0 for 9;barge at 0 for 9;");
        for (int shelf = 0; shelf < 4; shelf++) {
            due("nothing at first", x.taken(shelf, 0), -11);
            due("nothing at first, for a row", x.taken(shelf, 10), -11);
            due("nothing at first, to act", x.act(shelf, 0, 5), 0);
        }
        due("no shelf 4", x.shelf(4, 0, 0), -1);
        x.shelf(3, 0, 2);
        due("by its number", x.taken(3, 0), 2);
        x.mind(2, 5, 1);
        due("what it is by now", x.taken(3, 5), 2);
        Check.feedText(x, "mute at 1 for 1;mute at 1 for 1;");
        x.canal();
        due("no such one now", x.taken(3, 0), -11);
        due("no such one now, for a row", x.taken(3, 10), -11);
        due("no such one now, to act", x.act(3, 0, 5), 0);
        x.barge(4, 0, 3, 3);
        due("there is one again", x.taken(3, 4), 2);
        due("and it acts", x.act(3, 0, 5), (15 + 2 + 4) * 2);
        x.sheet(1, 3, 40);
        x.shelf(0, 1, 1);
        due("a row of longs", x.taken(0, 13), 40);
        x.sheet(1, 0, 3);
        due("the row that it was given", x.taken(0, 13), 40);
        due("not the new one", x.taken(0, 10), -13);
        x.shelf(0, 1, 1);
        due("the new one", x.taken(0, 10), 3);
        x.sheet(1, 0, 0);
        x.shelf(0, 1, 1);
        due("an empty row is something", x.taken(0, 10), 0);
    }
}
