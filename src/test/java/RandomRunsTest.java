import java.lang.reflect.InvocationTargetException;
import java.lang.reflect.Method;
import java.util.ArrayList;
import java.util.Comparator;
import java.util.List;
import java.util.Random;

/** Long runs of drawn calls, each answered by the program and by NaiveCanal; they must never differ. */
public final class RandomRunsTest {
    private static final int RUNS = 400;
    private static final int CALLS = 512;
    private static final String[] WORDS = {
        "barge", "mute", "lover", "bishop", "miller", "dealer", "at", "for", "load", "other", "noise", "is",
        "echo", "hush", "wind", "laugh", ";", ";", ";", "0", "9", "10", "07", "99", "100", "0003", "x", "A", "\u00ff"};

    private final Random random;
    private final SilenceCanal program = new SilenceCanal();
    private final NaiveCanal naive = new NaiveCanal();
    private final List<String> told = new ArrayList<>();
    private final Check check;
    private final int run;

    private RandomRunsTest(int run, Check check) {
        this.run = run;
        this.check = check;
        this.random = new Random(run);
    }

    public static void main(String[] args) throws Exception {
        Check check = new Check("RandomRunsTest");
        for (int run = 0; run < RUNS && check.wrong() == 0; run++) {
            new RandomRunsTest(run, check).go();
        }
        check.end();
    }

    private void go() throws Exception {
        Method[] face = SilenceCanal.class.getDeclaredMethods();
        List<Method> calls = new ArrayList<>();
        for (Method m : face) {
            if (java.lang.reflect.Modifier.isPublic(m.getModifiers())) {
                calls.add(m);
            }
        }
        calls.sort(Comparator.comparing(Method::getName));
        int left = CALLS;
        for (int i = 0; left > 0 && check.wrong() == 0; i++) {
            Method m = calls.get(random.nextInt(calls.size()));
            if (i < 12 && run % 3 != 0) {
                m = named(calls, i % 4 == 3 ? "mind" : "barge");
            }
            if (m.getName().equals("hushedFor") && random.nextInt(4) != 0) {
                continue;
            }
            if (m.getName().equals("feed") && random.nextInt(3) == 0) {
                left -= feedWhole(calls);
            } else {
                call(m, arguments(m));
                left--;
            }
        }
    }

    private static Method named(List<Method> calls, String name) {
        for (Method m : calls) {
            if (m.getName().equals(name)) {
                return m;
            }
        }
        throw new IllegalStateException(name);
    }

    private int feedWhole(List<Method> calls) throws Exception {
        StringBuilder text = new StringBuilder();
        int lines = random.nextInt(9);
        for (int i = 0; i < lines && text.length() < 170; i++) {
            text.append(line());
        }
        if (random.nextInt(3) == 0) {
            text.insert(random.nextInt(text.length() + 1), WORDS[random.nextInt(WORDS.length)]);
        }
        if (random.nextInt(4) == 0) {
            text.setLength(random.nextInt(text.length() + 1));
        }
        int many = 1;
        for (int i = 0; i < text.length(); i += 8) {
            int n = Math.min(8, text.length() - i);
            call(named(calls, "feed"), new Object[] {Check.packed(text.toString(), i, n), n});
            many++;
        }
        call(named(calls, "canal"), new Object[0]);
        return many;
    }

    private String line() {
        String gap = random.nextInt(3) == 0 ? "  " : " ";
        switch (random.nextInt(8)) {
            case 0: return "noise" + gap + lockWord() + gap + "is" + random.nextInt(10) + ";";
            case 1: return WORDS[12 + random.nextInt(4)] + gap + random.nextInt(random.nextInt(5) == 0 ? 12 : 10) + gap + ";";
            case 2: return "laugh" + random.nextInt(101) + ";" + gap;
            default:
                return WORDS[random.nextInt(6)] + " at" + gap + lockWord() + "for" + gap + lockWord()
                    + (random.nextBoolean() ? gap + "load " + random.nextInt(101) : "")
                    + (random.nextBoolean() ? gap + "other" : "") + ";";
        }
    }

    private String lockWord() {
        return random.nextInt(40) == 0 ? "10" : random.nextInt(20) == 0 ? "00" + random.nextInt(10) : "" + random.nextInt(10);
    }

    private Object[] arguments(Method m) {
        Class<?>[] types = m.getParameterTypes();
        Object[] drawn = new Object[types.length];
        for (int i = 0; i < types.length; i++) {
            if (types[i] == long.class) {
                drawn[i] = random.nextLong();
            } else {
                drawn[i] = wild() ? wildInt() : tame(m.getName(), i);
            }
        }
        return drawn;
    }

    private boolean wild() {
        return random.nextInt(40) == 0;
    }

    private int wildInt() {
        switch (random.nextInt(6)) {
            case 0: return Integer.MIN_VALUE;
            case 1: return Integer.MAX_VALUE;
            case 2: return -1 - random.nextInt(3);
            case 3: return random.nextInt(120);
            default: return random.nextInt();
        }
    }

    private int upTo(int most) {
        return random.nextInt(25) == 0 ? most + 1 : random.nextInt(most + 1);
    }

    private int tame(String name, int i) {
        switch (name + i) {
            case "feed1": return upTo(8);
            case "set0": case "lawOf0": return upTo(3);
            case "set1": return random.nextInt(3) == 0 ? upTo(99) : upTo(9);
            case "barge0": case "mind1": return upTo(5);
            case "barge1": case "fill1": case "loadFor2": case "hope0": return upTo(99);
            case "barge2": case "barge3": case "bring1": case "send1": case "noise0": case "noise1": case "lock0":
                return upTo(9);
            case "of1": case "state0": return upTo(5);
            case "does1": case "mind2": case "fits2": case "odds2": case "hope1": return upTo(1);
            case "lock1": case "row1": case "alterRow1": case "shelf1": return upTo(2);
            case "hours0": return random.nextInt(6) == 0 ? upTo(60) : upTo(3);
            case "freight1": case "cargo0": return random.nextInt(3) == 0 ? upTo(60) : upTo(9);
            case "stillFor1": case "kindFor1": case "loadFor1": case "holdFor0": case "spoilt0":
                return random.nextInt(3) == 0 ? upTo(30) : upTo(9);
            case "hushedFor0": return random.nextInt(3) == 0 ? upTo(20) : upTo(9);
            case "hushedFor1":
                return random.nextInt(4) == 0 ? upTo(999) : Math.max(0, program.cargo(9) + random.nextInt(40));
            case "odds0": case "odds1": return upTo(8);
            case "prove1": case "row0": case "alterRow0": return upTo(10);
            case "fits0": case "minds0": case "sheet0": case "put0": case "item0": return upTo(3);
            case "shelf0": case "taken0": case "act0": case "act1": case "item1": return upTo(3);
            case "sheet1": return upTo(4) - 1;
            case "sheet2": return random.nextInt(3) == 0 ? upTo(40) : upTo(6);
            case "put1": case "item2": case "minds1": return upTo(5);
            case "put2": return random.nextInt(3) == 0 ? -1 : random.nextInt(5) == 0 ? random.nextInt() : upTo(140);
            case "minds3": return upTo(4);
            case "taken1": return random.nextBoolean() ? upTo(5) : 10 + upTo(3);
            case "shelf2": return upTo(4);
            case "act2": case "seed0": return random.nextBoolean() ? random.nextInt() : random.nextInt(40) - 20;
            case "trace0": return upTo(12);
            case "many0": return upTo(6);
            default: return upTo(7);
        }
    }

    private void call(Method m, Object[] arguments) throws Exception {
        StringBuilder line = new StringBuilder(m.getName());
        for (Object a : arguments) {
            line.append(' ').append(a);
        }
        told.add(line.toString());
        long got = answer(m, program, arguments);
        long want = answer(NaiveCanal.class.getMethod(m.getName(), m.getParameterTypes()), naive, arguments);
        check.due("run " + run + ", call " + told.size() + ": " + line, got, want);
        if (got != want) {
            System.out.println("  the calls before it: " + told);
        }
    }

    private static long answer(Method m, Object on, Object[] arguments) throws Exception {
        try {
            return ((Number) m.invoke(on, arguments)).longValue();
        } catch (InvocationTargetException e) {
            e.getCause().printStackTrace(System.out);
            return Long.MIN_VALUE + (on instanceof SilenceCanal ? 1 : 2);
        }
    }
}
