import java.io.IOException;
import java.lang.reflect.Constructor;
import java.lang.reflect.Field;
import java.lang.reflect.Method;
import java.lang.reflect.Modifier;
import java.nio.file.Files;
import java.nio.file.Path;
import java.util.Arrays;
import java.util.List;
import java.util.Map;
import java.util.Set;
import java.util.TreeMap;
import java.util.TreeSet;
import java.util.regex.Matcher;
import java.util.regex.Pattern;

/** The face of the document and those rules of LANGUAGE.md that can be seen from the text or from the class. */
public final class LanguageTest {
    private static final Check CHECK = new Check("LanguageTest");
    private static final String[] FACE = {
        "int feed(long,int)", "int canal()", "int set(int,int)", "int lawOf(int)", "int barge(int,int,int,int)",
        "int of(int,int)", "int does(int,int)", "int mind(int,int,int)", "int fill(int,int)", "int bring(int,int)",
        "int send(int,int)", "int noise(int,int)", "int lock(int,int)", "int hours(int)", "int seed(int)", "int hour()",
        "int spoilt(int)", "int state(int)", "int freight(int,int)", "int lands(int)", "int meets(int,int)", "int quiet()",
        "int cargo(int)", "int stillFor(int,int)", "int kindFor(int,int)", "int loadFor(int,int,int)",
        "int hushedFor(int,int)", "int holdFor(int)", "int fits(int,int,int)", "long odds(int,int,int)", "long hope(int,int)",
        "int prove(int,int)", "int row(int,int)", "int alterRow(int,int,int)", "int judge(int)", "int minds(int,int,int,int)",
        "int sheet(int,int,int)", "int put(int,int,int)", "int item(int,int,int)", "int shelf(int,int,int)",
        "int taken(int,int)", "int act(int,int,int)", "int trace(int)", "int many(int)", "int keep()", "int again()"};

    public static void main(String[] args) throws IOException {
        face();
        membersInside();
        words();
        madeOnce();
        callsDeep();
        CHECK.end();
    }

    private static String told(Method m) {
        StringBuilder s = new StringBuilder(m.getReturnType().getName()).append(' ').append(m.getName()).append('(');
        for (Class<?> type : m.getParameterTypes()) {
            s.append(s.charAt(s.length() - 1) == '(' ? "" : ",").append(type.getName());
        }
        return s.append(')').toString();
    }

    private static void face() {
        int kind = SilenceCanal.class.getModifiers();
        CHECK.holds("public and final", Modifier.isPublic(kind) && Modifier.isFinal(kind));
        Set<String> names = new TreeSet<>();
        Set<String> publics = new TreeSet<>();
        for (Method m : SilenceCanal.class.getDeclaredMethods()) {
            if (Modifier.isPublic(m.getModifiers())) {
                publics.add(told(m));
                names.add(m.getName());
            }
        }
        CHECK.holds("the methods of the document and no others: " + publics, publics.equals(new TreeSet<>(List.of(FACE))));
        for (Method m : SilenceCanal.class.getDeclaredMethods()) {
            boolean isPublic = Modifier.isPublic(m.getModifiers());
            CHECK.holds(m + " public or private", isPublic || Modifier.isPrivate(m.getModifiers()));
            CHECK.holds(m + " bears no public name", isPublic || !names.contains(m.getName()));
        }
        Set<String> constants = new TreeSet<>();
        for (Field f : SilenceCanal.class.getDeclaredFields()) {
            boolean isPublic = Modifier.isPublic(f.getModifiers());
            CHECK.holds(f + " public or private", isPublic || Modifier.isPrivate(f.getModifiers()));
            if (isPublic) {
                constants.add(f.getName());
            }
        }
        CHECK.holds("the constants", constants.equals(new TreeSet<>(List.of("BAD", "FULL", "NONE"))));
        Constructor<?>[] made = SilenceCanal.class.getDeclaredConstructors();
        CHECK.holds("one public constructor", made.length == 1 && Modifier.isPublic(made[0].getModifiers())
            && made[0].getParameterCount() == 0);
        for (Class<?> inside : SilenceCanal.class.getDeclaredClasses()) {
            for (Method m : inside.getDeclaredMethods()) {
                CHECK.holds(m + " bears no public name", !names.contains(m.getName()));
            }
        }
    }

    private static void membersInside() {
        Class<?>[] inside = SilenceCanal.class.getDeclaredClasses();
        CHECK.holds("few classes", inside.length <= 11);
        for (Class<?> c : inside) {
            CHECK.holds(c + " static, not public", Modifier.isStatic(c.getModifiers())
                && !Modifier.isPublic(c.getModifiers()) && !Modifier.isProtected(c.getModifiers()));
        }
        for (Class<?> c : inside) {
            look(c);
        }
        look(SilenceCanal.class);
    }

    private static void look(Class<?> c) {
        int fields = 0;
        for (Field f : c.getDeclaredFields()) {
            boolean isStatic = Modifier.isStatic(f.getModifiers());
            CHECK.holds(f + " static only if final", !isStatic || Modifier.isFinal(f.getModifiers()));
            fields += isStatic ? 0 : 1;
        }
        CHECK.holds(c + " some twenty fields", fields <= 20);
        for (Method m : c.getDeclaredMethods()) {
            CHECK.holds(m + " at most seven parameters", m.getParameterCount() <= 7);
            CHECK.holds(m + " not of the compiler", !m.isSynthetic());
        }
    }

    private static String source() throws IOException {
        return Files.readString(Path.of("src/main/java/SilenceCanal.java"));
    }

    private static String code() throws IOException {
        return source().replaceAll("(?s)/\\*.*?\\*/", "").replaceAll("//[^\n]*", "");
    }

    /** All calls of a run live in one room: what is made is made with the object, and by no call. */
    private static void madeOnce() throws IOException {
        String inConstructor = code().replaceAll("(?s)(public SilenceCanal\\(\\) \\{.*?\n    \\}\n).*", "$1")
            .replaceAll("(?s).*public SilenceCanal", "");
        for (String line : code().split("\n")) {
            boolean makes = Pattern.compile("\\bnew\\b|\\.clone\\(|Arrays\\.copy|StringBuilder|substring").matcher(line).find();
            boolean isField = line.matches("\\s+(private )?final [\\w\\[\\]]+ \\w+ = new [\\w.\\[\\]* ()]+;");
            CHECK.holds("made with the object: " + line, !makes || isField || inConstructor.contains(line));
        }
    }

    /** The methods that each method calls, by their names; those of the classes inside bear names of their own. */
    private static Map<String, Set<String>> callsOfMethods() throws IOException {
        Map<String, String> bodies = new TreeMap<>();
        Matcher m = Pattern.compile("(?ms)^( +)(?:(?:public|private|static|final) )*[\\w\\[\\]]+ (\\w+)\\([^)]*\\) \\{\n(.*?)^\\1\\}")
            .matcher(code());
        while (m.find()) {
            bodies.merge(m.group(2), m.group(3), String::concat);
        }
        Map<String, Set<String>> calls = new TreeMap<>();
        for (String name : bodies.keySet()) {
            Set<String> called = new TreeSet<>();
            Matcher call = Pattern.compile("\\b(\\w+)\\(").matcher(bodies.get(name));
            while (call.find()) {
                if (bodies.containsKey(call.group(1)) && !call.group(1).equals(name)) {
                    called.add(call.group(1));
                }
            }
            calls.put(name, called);
        }
        return calls;
    }

    private static int depthOf(String name, Map<String, Set<String>> calls, int open) {
        if (open > 20) {
            return open;
        }
        int deepest = 0;
        for (String called : calls.get(name)) {
            deepest = Math.max(deepest, depthOf(called, calls, open + 1));
        }
        return 1 + deepest;
    }

    private static void callsDeep() throws IOException {
        Map<String, Set<String>> calls = callsOfMethods();
        for (String line : FACE) {
            String name = line.substring(line.indexOf(' ') + 1, line.indexOf('('));
            CHECK.holds(name + " is found", calls.containsKey(name));
            int depth = calls.containsKey(name) ? depthOf(name, calls, 0) : 0;
            CHECK.holds(name + " goes at most eight deep: " + depth, depth <= 8);
        }
    }

    private static void words() throws IOException {
        String source = source();
        String code = code();
        String[] banned = {"throw", "throws", "try", "catch", "synchronized", "assert", "package", "protected", "default\\s+int",
            "static\\s*\\{", "->", "::", "\\w+Exact", "Random", "System\\.(?!arraycopy)", "Thread", "hashCode", "toString", "Object",
            "import (?!java\\.util\\.Arrays;)", "values\\(\\)", "var"};
        for (String word : banned) {
            boolean isWord = Character.isLetter(word.charAt(0)) || word.charAt(0) == '\\' && word.charAt(1) == 'w';
            Matcher m = Pattern.compile(isWord ? "\\b" + word + (word.endsWith(")") ? "" : "\\b") : word).matcher(code);
            CHECK.holds("no " + word, !m.find());
        }
        for (char c : source.toCharArray()) {
            CHECK.holds("plain signs", c == '\n' || c >= ' ' && c < 127);
        }
        int longest = Arrays.stream(source.split("\n    (    )?}\n")).mapToInt(part -> part.split("\n").length).max().getAsInt();
        CHECK.holds("methods stay short: " + longest, longest <= 70);
    }
}
