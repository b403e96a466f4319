/** The sentences of 'Terms' 2 on what is tried, odds and draws, at the edges that they name. */
final class TriedTerms {
    private final Check check;

    private TriedTerms(Check check) {
        this.check = check;
    }

    static void all(Check check) {
        TriedTerms terms = new TriedTerms(check);
        terms.freightAndCargo();
        terms.fewestHours();
        terms.stillFor();
        terms.kindFor();
        terms.loadFor();
        terms.hushedFor();
        terms.holdFor();
        terms.loudest();
        terms.fits();
        terms.odds();
        terms.draws();
        terms.spoilt();
    }

    private void say(String words) {
        check.sentence("Terms 2", words);
    }

    private void due(String what, long got, long want) {
        check.due(what, got, want);
    }

    private static SilenceCanal told(String text) {
        return Check.told(text);
    }

    private void freightAndCargo() {
        say("FREIGHT of one by n: its LOAD behind n HOURS.");
        SilenceCanal x = told("barge at 0 for 9 load 20;barge at 9 for 9 load 5;bishop at 8 for 1 load 90 other;");
        due("behind none", x.freight(0, 0), 20);
        due("behind one", x.freight(0, 1), 18);
        due("behind 60, one that has landed", x.freight(1, 60), 5);
        // 60 less 7, less 6; in the odd hour one lock: 47 less 8 + 4.
        due("an odd hour is tried as one", told("miller at 0 for 9 load 60;noise 3 is 9;").freight(0, 2), 35);
        say("CARGO by n: LOADS of all together behind n HOURS.");
        due("behind none", x.cargo(0), 115);
        due("2 less, none, 2 more", x.cargo(1), 115 - 2 + 2);
        due("none of none", new SilenceCanal().cargo(60), 0);
        due("the most", told("barge at 0 for 0 load 99;".repeat(8)).cargo(60), 792);
    }

    private void fewestHours() {
        say("LANDS: behind the fewest HOURS (0 to 60) it has LANDED first.");
        SilenceCanal x = told("barge at 0 for 9;barge at 9 for 9;bishop at 9 for 0;miller at 0 for 9;dealer at 9 for 0;wind 9;");
        int[] hours = {9, 0, 5, 6, 1};
        for (int b = 0; b < 5; b++) {
            due("of " + b, x.lands(b), hours[b]);
        }
        x.hours(1);
        due("a miller from 2 in an odd hour: 1, 2, 1, 2, 1", x.lands(3), 5);
        due("it has, though it was sent no further", x.lands(4), 0);
        say("MEETS of two: behind the fewest (0 to 60) they are AT one LOCK first.");
        SilenceCanal y = told("barge at 0 for 8;barge at 8 for 0;barge at 9 for 0;barge at 8 for 8;barge at 8 for 9;");
        due("half way", y.meets(0, 1), 4);
        due("they go past one another", y.meets(0, 2), -3);
        due("now", y.meets(1, 3), 0);
        due("now, though one goes on", y.meets(3, 4), 0);
        due("where it has landed", y.meets(0, 3), 8);
        due("where both land at last", y.meets(1, 2), 9);
        due("of one sort or the other", told("barge at 0 for 1;barge at 1 for 1 other;").meets(0, 1), 1);
        say("QUIET: behind the fewest (0 to 60) all have LANDED first.");
        due("none", new SilenceCanal().quiet(), 0);
        due("all have", told("barge at 4 for 4;mute at 5 for 5;").quiet(), 0);
        due("the last of them", told("barge at 4 for 4;lover at 5 for 0;mute at 5 for 7;").quiet(), 3);
        due("the farthest", told("barge at 9 for 0;").quiet(), 9);
    }

    private void stillFor() {
        say("STILL FOR one, n: the LOCK which, were its NOISE 0 now, makes FREIGHT of it by n greatest");
        SilenceCanal x = told("barge at 0 for 4;noise 1 is 3;noise 2 is 8;noise 3 is 9;noise 4 is 5;");
        due("by one", x.stillFor(0, 1), 1);
        due("by two", x.stillFor(0, 2), 2);
        due("by three", x.stillFor(0, 3), 3);
        due("by thirty", x.stillFor(0, 30), 3);
        say("greater than as it is; of several the least.");
        due("of several", told("barge at 0 for 4;noise 1 is 3;noise 3 is 3;").stillFor(0, 4), 1);
        due("of several, downwards", told("barge at 4 for 0;").stillFor(0, 4), 0);
        due("landed", told("barge at 4 for 4;noise 4 is 9;").stillFor(0, 30), -3);
        due("all still", told("barge at 4 for 5;noise 5 is 0;").stillFor(0, 30), -3);
        due("half of 1 is nothing", told("mute at 4 for 5;noise 5 is 1;").stillFor(0, 30), -3);
        due("the lock where it is helps nothing", told("barge at 4 for 5;noise 5 is 0;noise 4 is 9;").stillFor(0, 30), -3);
        due("nothing to lose", told("barge at 4 for 5 load 0;").stillFor(0, 30), -3);
        due("of too little the last counts", told("barge at 4 for 6 load 2;noise 5 is 9;noise 6 is 1;").stillFor(0, 2), 5);
        due("no one lock helps", told("barge at 4 for 6 load 2;noise 5 is 9;noise 6 is 9;").stillFor(0, 2), -3);
    }

    private void kindFor() {
        say("KIND FOR one, n: the KIND as one of which FREIGHT of it by n is greatest; of several the least.");
        due("all the same", told("dealer at 3 for 3;").kindFor(0, 30), 0);
        due("no noise, no hush: the lover gains 1", told("barge at 3 for 4;noise 4 is 0;hush 0;").kindFor(0, 1), 2);
        due("the bishop gains 2", told("barge at 3 for 4;noise 4 is 0;").kindFor(0, 1), 3);
        due("1 and 0: mute, lover, bishop lose nothing", told("barge at 3 for 4;noise 4 is 1;hush 0;").kindFor(0, 1), 1);
        due("all are held to 99", told("barge at 3 for 4 load 99;noise 4 is 0;").kindFor(0, 1), 0);
        due("none has anything", told("dealer at 3 for 4 load 0;noise 4 is 9;hush 0;").kindFor(0, 1), 0);
        SilenceCanal x = told("barge at 3 for 4;noise 4 is 9;hush 0;");
        x.hours(1);
        x.bring(0, 3);
        due("in hour 1 the dealer spills nothing", x.kindFor(0, 1), 5);
        due("it is what it was", x.of(0, 0), 0);
        // Lover, bishop, miller and dealer come to 2, where 1 waits; barge and mute to 1, losing nothing.
        String waits = "barge at 2 for 9;noise 1 is 0;noise 2 is 0;echo 9;";
        due("of its own sort it goes by 1 in peace", told("barge at 0 for 9;" + waits).kindFor(0, 1), 3);
        due("it stays of the other sort", told("barge at 0 for 9 other;" + waits).kindFor(0, 1), 0);
    }

    private void loadFor() {
        say("LOAD FOR one, n, v: the least LOAD (0 to 99) of it now with which FREIGHT of it by n is v or more.");
        SilenceCanal x = told("barge at 0 for 3 load 77;noise 1 is 4;");
        due("nothing", x.loadFor(0, 3, 0), 0);
        due("1 and 8", x.loadFor(0, 3, 1), 9);
        due("91 and 8", x.loadFor(0, 3, 91), 99);
        due("92 and 8", x.loadFor(0, 3, 92), -3);
        due("what it has now counts nothing", x.loadFor(0, 1, 5), 9);
        SilenceCanal y = told("bishop at 0 for 1;noise 1 is 0;hush 9;");
        due("v or more: it gains 9, no load leaves just 5", y.loadFor(0, 1, 5), 0);
        due("it gains 9", y.loadFor(0, 1, 9), 0);
        due("it gains 9", y.loadFor(0, 1, 10), 1);
        due("held to 99", y.loadFor(0, 1, 99), 90);
        due("landed", told("mute at 5 for 5;").loadFor(0, 30, 99), 99);
        due("of a second one", told("mute at 5 for 5;barge at 0 for 1;").loadFor(1, 1, 40), 42);
    }

    private void hushedFor() {
        say("HUSHED FOR n, v: the set of fewest LOCKS such that, were their NOISE 0 now, CARGO by n is v or more; of several the least.");
        SilenceCanal x = told("barge at 0 for 5;barge at 5 for 9;");
        due("none is enough", x.hushedFor(20, 100 - 18), 0);
        due("one: the least", x.hushedFor(20, 100 - 17), 2);
        due("one", x.hushedFor(20, 100 - 16), 2);
        due("two: the least", x.hushedFor(20, 100 - 15), 6);
        due("all nine", x.hushedFor(20, 100), 1022);
        due("by no set", x.hushedFor(20, 101), -3);
        due("only one hour", x.hushedFor(1, 98), 2);
        due("only one hour", x.hushedFor(1, 100), 2 | 64);
        x.noise(8, 9);
        due("fewest, though not least", x.hushedFor(20, 100 - 17), 256);
        due("nothing without barges", new SilenceCanal().hushedFor(20, 0), 0);
        due("something without barges", new SilenceCanal().hushedFor(20, 1), -3);
        due("all ten", told("barge at 0 for 9;barge at 1 for 0;").hushedFor(20, 100), 1023);
        due("downwards: one on its way", told("barge at 3 for 0;noise 1 is 9;").hushedFor(20, 46), 2);
        due("downwards: all on its way", told("barge at 3 for 0;").hushedFor(20, 50), 7);
        due("it gains with stillness", told("lover at 0 for 1 load 50;noise 1 is 1;").hushedFor(1, 51), 2);
        due("held to 99", told("lover at 0 for 1 load 99;noise 1 is 1;").hushedFor(1, 100), -3);
    }

    private void holdFor() {
        say("HOLD FOR n: the one that, held back ((1) and (2) fall away for it), makes CARGO by n greatest, greater than as it is; of several the least.");
        SilenceCanal x = told("barge at 0 for 1;mute at 2 for 3;barge at 4 for 5;barge at 6 for 7;noise 5 is 7;noise 7 is 7;");
        due("of several", x.holdFor(1), 2);
        x.noise(5, 0);
        x.noise(7, 0);
        due("the first", x.holdFor(1), 0);
        x.noise(1, 0);
        due("the second", x.holdFor(1), 1);
        x.noise(3, 1);
        due("nobody: as it is is as good", x.holdFor(30), -3);
        due("at lock 0, and from 5 to 4", told("barge at 1 for 0;barge at 2 for 3;noise 0 is 5;noise 3 is 4;").holdFor(1), 0);
        due("at lock 0 alone", told("barge at 1 for 0;").holdFor(1), 0);
        due("nobody there", new SilenceCanal().holdFor(30), -3);
        due("all have landed", told("barge at 1 for 1;").holdFor(30), -3);
        due("one that gains is not held", told("bishop at 1 for 2;noise 2 is 0;").holdFor(1), -3);
        // 1 held stands at 2, not landed, and is met there by 0: held back it loses 3 and 0 as well.
        SilenceCanal y = told("barge at 1 for 2;barge at 2 for 9 other;noise 2 is 0;noise 3 is 0;");
        due("0 held meets none; 1 held is met all the same", y.holdFor(1), 0);
        // 0 is held: it goes through no (2) of its own, but the other comes and meets it.
        SilenceCanal z = told("barge at 2 for 3;barge at 1 for 9 other;noise 2 is 0;noise 3 is 0;");
        due("held it would be met, as it is it isn't", z.holdFor(1), -3);
        heldAmongOthers();
        heldNoLonger();
        due("nothing is held by that", z.hours(1), 100);
    }

    /** (1) and (2) fall away for the held one alone: those of the others go on, and may be with it. */
    private void heldAmongOthers() {
        // As it is 48 + 48; 0 held is met by 1: 47 + 45; 1 held: 48 + 50.
        due("the others' (2) is with the held one too", told("barge at 1 for 9;barge at 0 for 9 other;").holdFor(1), 1);
        // As it is both meet at 2: 45 + 45; whichever is held, they part without an echo: 50 + 48.
        due("the held one's own (2) falls away", told("barge at 1 for 9;barge at 1 for 9 other;").holdFor(1), 0);
    }

    /** What was held back in one try is not held in the next. */
    private void heldNoLonger() {
        SilenceCanal x = told("barge at 0 for 9;");
        due("held", x.holdFor(30), 0);
        due("it lands", x.lands(0), 9);
        x.holdFor(30);
        due("all land", x.quiet(), 9);
        x.holdFor(30);
        due("it spills", x.freight(0, 1), 48);
        x.holdFor(30);
        due("it needs more", x.loadFor(0, 1, 5), 7);
        x.holdFor(30);
        due("a lock to still", x.stillFor(0, 1), 1);
        x.holdFor(30);
        due("a kind to be", x.kindFor(0, 1), 3);
        x.holdFor(30);
        x.prove(0, 1);
        due("its row", x.row(0, 0), 1);
        x.holdFor(30);
        due("its row is right", x.judge(0), 0);
        x.holdFor(30);
        due("it goes", x.hours(1), 48);
    }

    private void loudest() {
        say("LOUDEST: the LOCK AT which most was LOST, of several the least (10, if nothing was anywhere).");
        SilenceCanal x = new SilenceCanal();
        due("nothing anywhere", x.state(5), 10);
        x.barge(0, 50, 8, 9);
        due("nothing yet", x.state(5), 10);
        x.hours(1);
        due("lock 9", x.state(5), 9);
        x.send(0, 8);
        x.hours(1);
        due("of 8 and 9 the least", x.state(5), 8);
        x.send(0, 9);
        x.hours(1);
        due("9 has more", x.state(5), 9);
        x.bring(0, 1);
        x.send(0, 0);
        x.noise(0, 4);
        x.hours(1);
        due("of 0 and 9 the least", x.state(5), 0);
        SilenceCanal y = told("barge at 1 for 3;noise 2 is 9;noise 3 is 5;");
        y.hours(1);
        y.noise(2, 0);
        y.hours(1);
        due("9 at lock 2, 5 at lock 3, whatever their noise is now", y.state(5), 2);
    }

    private void fits() {
        say("FITS of one by a SHEET: those numbers (0 to 99) that might be its LOAD now so that it is, behind 1, 2, .. HOURS, what the numbers of the SHEET tell, one by one (-1: any).");
        SilenceCanal x = told("barge at 0 for 2 load 77;noise 1 is 3;noise 2 is 4;");
        x.sheet(0, 2, 2);
        due("0, 0: 0 to 3", x.fits(0, 0, 0), 4);
        due("the least", x.fits(0, 0, 1), 0);
        x.put(0, 0, -1);
        due("any, 0: 0 to 7", x.fits(0, 0, 0), 8);
        x.put(0, 1, 92);
        due("any, 92", x.fits(0, 0, 0), 1);
        due("99", x.fits(0, 0, 1), 99);
        x.put(0, 1, 93);
        due("any, 93", x.fits(0, 0, 0), 0);
        due("none", x.fits(0, 0, 1), -3);
        x.put(0, 1, -1);
        due("any, any", x.fits(0, 0, 0), 100);
        x.put(0, 0, -2);
        due("-2 is nothing's load", x.fits(0, 0, 0), 0);
        x.put(0, 0, 96);
        due("96, any", x.fits(0, 0, 1), 99);
        x.put(0, 1, 93);
        due("96, 93: not one by one", x.fits(0, 0, 0), 0);
        x.sheet(0, 3, 0);
        due("an empty one tells nothing", x.fits(0, 0, 0), 100);
        due("an empty one tells nothing", x.fits(0, 0, 1), 0);
        for (int sort = 0; sort < 4; sort++) {
            x.sheet(0, sort, 40);
            for (int i = 0; i < 40; i++) {
                x.put(0, i, i < 39 ? -1 : 60);
            }
            due("the fortieth hour, sort " + sort, x.fits(0, 0, 1), 67);
        }
    }

    private void odds() {
        say("ODDS by n, k: that of n barges just k are struck by a laugh, each by LAUGH of a hundred.");
        SilenceCanal x = new SilenceCanal();
        due("none of none", x.odds(0, 0, 0), 1);
        due("none of none", x.odds(0, 0, 1), 1);
        due("one of one", x.odds(1, 1, 0), 1);
        due("one of one", x.odds(1, 1, 1), 5);
        due("none of one", x.odds(1, 0, 0), 4);
        due("two of four: 6 * 16 by 625", x.odds(4, 2, 0), 96);
        due("two of four", x.odds(4, 2, 1), 625);
        x.set(3, 99);
        due("none of eight", x.odds(8, 0, 0), 1);
        due("none of eight", x.odds(8, 0, 1), 10000000000000000L);
        x.set(3, 0);
        due("none of eight, surely", x.odds(8, 0, 0), 1);
        due("none of eight, surely", x.odds(8, 0, 1), 1);
        due("one of eight, never", x.odds(8, 1, 0), 0);
        say("HOPE by n: how many are on average.");
        due("never", x.hope(99, 0), 0);
        x.set(3, 99);
        due("99 by 99 of a hundred", x.hope(99, 0), 9801);
        due("99 by 99 of a hundred", x.hope(99, 1), 100);
        due("none", x.hope(0, 0), 0);
    }

    private void draws() {
        say("DRAWS: z (an int; 1 at first) becomes z * 1103515245 + 12345; z >>> 16 is drawn.");
        SilenceCanal x = told("barge at 0 for 0 load 99;");
        due("1 at first", x.seed(1), 1);
        x.hour();
        // 1 -> 1103527590 -> 2524885223, which is below 0 as an int.
        due("it wraps", x.seed(-1), (int) 2524885223L);
        x.hour();
        int z = -1 * 1103515245 + 12345;
        z = z * 1103515245 + 12345;
        due("from below 0", x.seed(1), z);
        say("AN HOUR BY DRAWS: if there are BARGES, a draw: the one that it leaves by how many there are;");
        SilenceCanal none = new SilenceCanal();
        due("without barges", none.hour(), 0);
        due("no draw", none.seed(1), 1);
        // From 1: 16838, which leaves these by 1 to 8, and 38526, which leaves 26 by 100.
        int[] struck = {0, 0, 2, 2, 3, 2, 3, 6};
        for (int many = 1; many <= 8; many++) {
            SilenceCanal y = told("laugh 27;");
            for (int b = 0; b < many; b++) {
                y.barge(0, 41, 0, 0);
            }
            y.hour();
            for (int b = 0; b < many; b++) {
                due("of " + many + ", " + b, y.of(b, 1), b == struck[many - 1] ? 20 : 41);
            }
        }
        say("and one more: if what that leaves by 100 is below LAUGH, LOAD of it is half (cut);");
        int[] laughs = {0, 26, 27, 99};
        for (int laugh : laughs) {
            SilenceCanal y = told("barge at 0 for 0 load 1;laugh " + laugh + ";");
            due("26 below " + laugh, y.hour(), laugh > 26 ? 0 : 1);
            due("nothing is lost by a laugh", y.state(2), 0);
            due("two draws in any case", y.seed(1), (int) 2524885223L);
        }
        say("then an HOUR.");
        due("half of 41, and 3 less, not half of 38", told("barge at 1 for 0 load 41;noise 0 is 3;laugh 99;").hour(), 17);
    }

    private void spoilt() {
        say("SPOILT: in how many of n HOURS BY DRAWS, each tried from how all is now (z alone goes on), LOADS of all together are less than CARGO by 1");
        SilenceCanal x = told("barge at 0 for 0 load 40;laugh 27;");
        int z = 1;
        int many = 0;
        for (int n = 1; n <= 30; n++) {
            z = z * 1103515245 + 12345;
            z = z * 1103515245 + 12345;
            many += (z >>> 16) % 100 < 27 ? 1 : 0;
            due("of " + n, x.spoilt(n), many);
        }
        due("from how all is now: it never has less than half", told("barge at 1 for 0 load 1;laugh 99;noise 0 is 0;").spoilt(9), 9);
        due("nothing to spoil", told("barge at 1 for 0 load 0;laugh 99;").spoilt(30), 0);
        due("lost anyway", told("barge at 1 for 0 load 2;laugh 99;").spoilt(30), 0);
        due("without barges", new SilenceCanal().spoilt(30), 0);
        due("without laughs", told("barge at 1 for 0;laugh 0;").spoilt(30), 0);
        // A laugh leaves 0 of 2, the hour alone 1; a second hour would leave 0 anyway.
        due("by 1, not by 2", told("barge at 2 for 0 load 2;noise 1 is 1;noise 0 is 1;laugh 99;").spoilt(5), 5);
    }
}
