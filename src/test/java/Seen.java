import java.util.ArrayList;
import java.util.List;

/** All of an object that calls can see, within its 512 calls; the object is not as it was behind that. */
final class Seen {
    private final SilenceCanal x;
    private final List<String> answers = new ArrayList<>();

    private Seen(SilenceCanal x) {
        this.x = x;
    }

    static List<String> of(SilenceCanal x) {
        Seen seen = new Seen(x);
        seen.canal("now");
        seen.rowsAndTrace();
        seen.sheetsAndShelves();
        int kept = x.again();
        seen.add("again()", kept);
        if (kept >= 0) {
            seen.canal("kept");
        }
        seen.tape();
        return seen.answers;
    }

    private void add(String call, long answer) {
        answers.add(call + " = " + answer);
    }

    private void canal(String when) {
        for (int b = 0; b < x.many(0); b++) {
            for (int what = 0; what < 5; what++) {
                add(when + " of(" + b + ", " + what + ")", x.of(b, what));
            }
        }
        for (int lock = 0; lock < 10; lock++) {
            add(when + " noise of " + lock, x.lock(lock, 0));
            add(when + " lost at " + lock, x.lock(lock, 1));
        }
        for (int law = 0; law < 4; law++) {
            add(when + " lawOf(" + law + ")", x.lawOf(law));
        }
        add(when + " hour", x.state(0));
        int z = x.seed(0);
        x.seed(z);
        add(when + " z", z);
    }

    private void rowsAndTrace() {
        for (int what = 4; what < 7; what++) {
            add("many(" + what + ")", x.many(what));
        }
        for (int i = 0; i < x.many(4); i++) {
            for (int what = 0; what < 3; what++) {
                add("row(" + i + ", " + what + ")", x.row(i, what));
            }
        }
        for (int i = 0; i < x.many(6); i++) {
            add("trace(" + i + ")", x.trace(i));
        }
    }

    private void sheetsAndShelves() {
        for (int sheet = 0; sheet < 4; sheet++) {
            for (int sort = 0; sort < 4; sort++) {
                for (int i = 0; i < 4; i++) {
                    add("item(" + sheet + ", " + sort + ", " + i + ")", x.item(sheet, sort, i));
                }
            }
        }
        for (int shelf = 0; shelf < 4; shelf++) {
            add("taken(" + shelf + ", 0)", x.taken(shelf, 0));
            for (int as = 10; as < 14; as++) {
                add("taken(" + shelf + ", " + as + ")", x.taken(shelf, as));
            }
        }
    }

    /** What the tape holds is seen by what comes of it. */
    private void tape() {
        add("canal()", x.canal());
        for (int b = 0; b < x.many(0); b++) {
            for (int what = 0; what < 5; what++) {
                add("told of(" + b + ", " + what + ")", x.of(b, what));
            }
        }
    }
}
