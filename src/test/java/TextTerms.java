/** The sentences of 'Terms' 2 on THE TAPE and TEXT, at the edges that they name. */
final class TextTerms {
    private static final String[] KINDS = {"barge", "mute", "lover", "bishop", "miller", "dealer"};
    private static final String[] LAWS = {"echo", "hush", "wind", "laugh"};
    private final Check check;

    private TextTerms(Check check) {
        this.check = check;
    }

    static void all(Check check) {
        TextTerms terms = new TextTerms(check);
        terms.tape();
        terms.lines();
        terms.kindLines();
        terms.otherLines();
        terms.allByItAlone();
        terms.noneOfThoseBefore();
        terms.namesAndNumbers();
        terms.blanks();
        terms.faultsOfNames();
        terms.faultsOfNumbers();
        terms.faultsOfOtherBytes();
        terms.faultAtTheEnd();
    }

    private void say(String words) {
        check.sentence("Terms 2", words);
    }

    private void due(String what, long got, long want) {
        check.due(what, got, want);
    }

    private void text(String text, int want) {
        due("'" + text + "'", Check.answerTo(text), want);
    }

    private void tape() {
        say("THE TAPE takes bytes, 200 at most; canal() uses it up.");
        String full = "mute at 1 for 2;" + " ".repeat(168) + "mute at 3 for 4;";
        SilenceCanal x = new SilenceCanal();
        Check.feedText(x, full);
        due("all 200", x.many(5), 200);
        due("no more", x.feed(32, 1), -2);
        due("the first and the last byte count", x.canal(), 2);
        due("used up", x.many(5), 0);
        due("used up: nothing is told", x.canal(), 0);
        Check.feedText(x, "x");
        due("a fault", x.canal(), -100);
        due("used up by a fault, too", x.many(5), 0);
        Check.feedText(x, full);
        due("200 anew", x.many(5), 200);
        due("all again", x.canal(), 2);
    }

    private void lines() {
        say("TEXT: { KIND at N for N [ load N ] [ other ] ; | noise N is N ; | echo N ; | hush N ; | wind N ; | laugh N ; }");
        text("", 0);
        text("barge at 0 for 9;", 1);
        text("barge at 0 for 9 load 5;", 1);
        text("barge at 0 for 9 other;", 1);
        text("barge at 0 for 9 load 5 other;", 1);
        text("barge at 0 for 9 other load 5;", -123);
        text("barge at 0 for 9 load 5 load 5;", -124);
        text("barge at 0 for 9 other other;", -123);
        text("barge for 9 at 0;", -106);
        text("barge at 0;", -110);
        text("barge at 0 load 5;", -111);
        text("at 0 for 9;", -100);
        text("noise 0 is 1;", 0);
        text("noise 0;", -107);
        text("noise 0 at 1;", -108);
        text("echo is 1;", -105);
        text("echo 1 is 1;", -107);
        text("echo 1 1;", -107);
        text("echo 1,", -106);
        text("echo 1;;", -107);
        text("laugh 1;wind 1;hush 1;echo 1;noise 1 is 1;barge at 1 for 1;", 1);
    }

    private void kindLines() {
        say("KIND (barge | mute | lover | bishop | miller | dealer): one more AT a LOCK, BOUND for one; LOAD (50 without); SORT 1 with other, else 0.");
        for (int kind = 0; kind < 6; kind++) {
            SilenceCanal x = Check.told(KINDS[kind] + " at 9 for 0;" + KINDS[kind] + " at 0 for 9 load 0 other;"
                + KINDS[kind] + " at 3 for 3 load 99;" + KINDS[kind] + " at 4 for 5 other;");
            int[][] want = {{kind, 50, 0, 9, 0}, {kind, 0, 1, 0, 9}, {kind, 99, 0, 3, 3}, {kind, 50, 1, 4, 5}};
            for (int b = 0; b < 4; b++) {
                for (int what = 0; what < 5; what++) {
                    due(KINDS[kind] + ", of(" + b + ", " + what + ")", x.of(b, what), want[b][what]);
                }
            }
        }
    }

    private void otherLines() {
        say("noise: of a LOCK. The others: the LAW.");
        for (int lock = 0; lock < 10; lock++) {
            SilenceCanal x = Check.told("noise " + lock + " is " + (9 - lock) + ";");
            for (int other = 0; other < 10; other++) {
                due("noise of " + other, x.lock(other, 0), other == lock ? 9 - lock : 2);
            }
        }
        int[] first = {3, 2, 1, 20};
        int[] most = {9, 9, 9, 99};
        for (int law = 0; law < 4; law++) {
            SilenceCanal x = Check.told(LAWS[law] + " " + most[law] + ";");
            for (int other = 0; other < 4; other++) {
                due(LAWS[law] + ", law " + other, x.lawOf(other), other == law ? most[law] : first[other]);
            }
            due(LAWS[law] + " 0", Check.told(LAWS[law] + " 0;").lawOf(law), 0);
            text(LAWS[law] + " " + (most[law] + 1) + ";", -101 - LAWS[law].length());
        }
        due("the latest of two", Check.told("wind 3;wind 4;").lawOf(2), 4);
        due("the latest of two", Check.told("noise 5 is 3;noise 5 is 4;").lock(5, 0), 4);
    }

    private void allByItAlone() {
        say("It is all by it alone (what it doesn't tell is as at first); z stays.");
        SilenceCanal x = Check.told("barge at 0 for 9;barge at 1 for 8 other;noise 1 is 9;noise 9 is 0;echo 9;hush 9;wind 9;laugh 99;");
        x.hours(7);
        x.seed(-77);
        Check.feedText(x, " ");
        due("a text that tells nothing", x.canal(), 0);
        for (int law = 0; law < 4; law++) {
            due("law " + law, x.lawOf(law), new int[] {3, 2, 1, 20}[law]);
        }
        for (int lock = 0; lock < 10; lock++) {
            due("noise", x.lock(lock, 0), 2);
            due("lost", x.lock(lock, 1), 0);
            due("none at it", x.lock(lock, 2), 0);
        }
        due("hour", x.state(0), 0);
        due("no such one", x.of(0, 0), -1);
        due("z stays", x.seed(1), -77);
        due("numbers from 0 again", x.barge(0, 0, 0, 0), 0);
        due("of sort 0", x.of(0, 2), 0);
    }

    /** Those that were there before and are told no more go, spill, echo and count no more. */
    private void noneOfThoseBefore() {
        for (int way = 0; way < 2; way++) {
            SilenceCanal x = Check.told("barge at 0 for 9;");
            x.keep();
            Check.feedText(x, "barge at 0 for 9;" + "barge at 1 for 9 load 70 other;".repeat(3));
            due("four", x.canal(), 4);
            if (way == 0) {
                Check.feedText(x, "barge at 0 for 9;");
                due("one, told", x.canal(), 1);
            } else {
                due("one, as it was kept", x.again(), 1);
            }
            due("its load alone", x.state(1), 50);
            due("it alone has not landed", x.quiet(), 9);
            due("none but it at a lock", x.state(4), 1);
            due("none at lock 1", x.lock(1, 2), 0);
            due("it meets none", x.hours(1), 48);
            due("it alone spills", x.state(2), 2);
            due("no second", x.of(1, 0), -1);
            due("a second", x.barge(3, 1, 2, 3), 1);
            due("as it came", x.of(1, 2), 0);
        }
    }

    private void namesAndNumbers() {
        say("NAMES are rows of letters a to z, NUMBERS rows of digits (1 to 3), both as long as they go;");
        text("bargeat 0 for 9;", -100);
        text("barges at 0 for 9;", -100);
        text("barg at 0 for 9;", -100);
        text("barge at 0 for 9 otherz;", -117);
        text("barge at 0 for 9 loada 5;", -117);
        text("aecho 1;", -100);
        text("zecho 1;", -100);
        text("echoa 1;", -100);
        text("Echo 1;", -100);
        text("eCho 1;", -100);
        text("ech` 1;", -100);
        text("ech{ 1;", -100);
        text("echo 001;", 0);
        text("echo 0001;", -105);
        text("echo 009;", 0);
        text("echo 010;", -105);
        text("laugh 099;", 0);
        text("laugh 0099;", -106);
        text("noise 000 is 000;", 0);
        text("barge at 009 for 000 load 009;", 1);
        due("009 is 9", Check.told("barge at 009 for 000 load 009;").of(0, 1), 9);
        text("barge at 0for 9load 5other;", 1);
    }

    private void blanks() {
        say("blanks (32) part them, and stand elsewhere as one likes.");
        text("   barge   at   0   for   9   load   5   other   ;   ", 1);
        text("barge at 0 for 9 load 5 other;echo 1;", 1);
        text("bar ge at 0 for 9;", -100);
        text("laugh 1 2;", -108);
        text("noise 1 is 1 ;  echo 1 ;", 0);
        text(" ", 0);
        text("echo\t1;", -104);
        text("echo 1;\n", -107);
        text("echo 1\u00a0;", -106);
    }

    private void faultsOfNames() {
        say("FAULT: the place (from 0) of the first byte of the first NAME, NUMBER or other byte that can't stand there or is not as told");
        text("x", -100);
        text("  x", -102);
        text("echo 1; lovers", -108);
        text("echo 1; 7", -108);
        text("other", -100);
        text("load 5;", -100);
        text("barge lover at 0 for 9;", -106);
        text("barge at nine for 9;", -109);
        text("barge at 0 to 9;", -111);
        text("barge at 0 for x;", -115);
        text("barge at 0 for 9 mute;", -117);
        text("barge at 0 for 9 load other;", -122);
        text("barge at 0 for 9 load 5 mute;", -124);
        text("barge at 0 for 9 5;", -117);
        text("barge at 0 for 9 load x;", -122);
        text("laugh a;", -106);
        text("laugh aa;", -106);
        text("echo a;", -105);
        text("1 2;", -100);
        text("the first of two: 1 2 x", -100);
        text("noise is 1;", -106);
        text("noise 1 is x;", -111);
        text("echo hush 1;", -105);
        say("the NAME of a ninth one)");
        String eight = "mute at 1 for 2;".repeat(8);
        text(eight, 8);
        for (String kind : KINDS) {
            text(eight + kind + " at 1 for 2;", -228);
            text(eight + "  " + kind, -230);
        }
        text(eight + "echo 1;noise 1 is 1;", 8);
        text(eight + "boat", -228);
    }

    private void faultsOfNumbers() {
        say("(a NUMBER out of range, of more digits;");
        text("barge at 10 for 9;", -109);
        text("barge at 9 for 10;", -115);
        text("barge at 9 for 9 load 100;", -122);
        text("barge at 9 for 9 load 99;", 1);
        text("barge at 999 for 9;", -109);
        text("barge at 1000 for 9;", -109);
        text("barge at 0000 for 9;", -109);
        text("barge at 0 for 0000;", -115);
        text("barge at 0 for 9 load 0000;", -122);
        text("barge at 0 for 9 load 4294967296;", -122);
        text("noise 10 is 1;", -106);
        text("noise 9 is 10;", -111);
        text("noise 0000 is 1;", -106);
        text("noise 0 is 0000;", -111);
        text("echo 10;", -105);
        text("hush 10;", -105);
        text("wind 10;", -105);
        text("laugh 100;", -106);
        text("laugh 00000000001;", -106);
    }

    private void faultsOfOtherBytes() {
        say("or other byte that can't stand there");
        text(";", -100);
        text("echo;1;", -104);
        text("echo 1:", -106);
        text("echo -1;", -105);
        text("echo +1;", -105);
        text("barge, at 0 for 9;", -105);
        text("barge at 0 for 9.", -116);
        text("echo 1;\0", -107);
        text("echo 1;\u00ff", -107);
        text("\u0080", -100);
        text("echo 1;}", -107);
        text("/", -100);
        text("echo :;", -105);
        text("echo /;", -105);
    }

    private void faultAtTheEnd() {
        say("or the end (how many bytes there are), if more must come.");
        String line = "barge at 0 for 9 load 5 other;";
        for (int length = 1; length < line.length(); length++) {
            String part = line.substring(0, length);
            boolean cutsName = part.matches(".*[a-z]") && line.charAt(length) != ' ' && line.charAt(length) != ';';
            int place = part.replaceAll("[a-z]+$", "").length();
            text(part, -100 - (cutsName ? place : length));
        }
        text("barge  ", -107);
        text("echo", -104);
        text("echo 1", -106);
        text("echo 1;noise", -112);
        text("echo 1;noise 3", -114);
        text("echo 1;noise 3 is", -117);
        text("echo 1;noise 3 is 3", -119);
        text("echo 1;noise 3 is 3  ", -121);
        text("echo 1" + " ".repeat(194), -300);
        text(" ".repeat(199) + "x", -299);
        text("echo 1;", 0);
        text("echo 1; ", 0);
    }
}
