import java.io.IOException;
import java.lang.reflect.Method;
import java.lang.reflect.Modifier;
import java.nio.file.Files;
import java.nio.file.Path;
import java.util.regex.Matcher;
import java.util.regex.Pattern;

/** What README.md says of the class: each call that it shows is made, each text that it shows is told. */
public final class ReadmeTest {
    private static final Check CHECK = new Check("ReadmeTest");
    private static final Pattern BLOCK = Pattern.compile("(?s)```(\\w+)\n(.*?)```");
    private static final Pattern CALL = Pattern.compile("(?m)^canal\\.(\\w+)\\(([-0-9, ]*)\\);\\s*// (-?\\d+):");

    public static void main(String[] args) throws Exception {
        String readme = readme();
        int calls = 0;
        int texts = 0;
        Matcher block = BLOCK.matcher(readme);
        while (block.find()) {
            if (block.group(1).equals("java")) {
                calls += callsOf(block.group(2));
            } else if (block.group(1).equals("text")) {
                texts++;
                CHECK.holds("a canal: " + block.group(2), Check.answerTo(block.group(2).trim()) >= 0);
            }
        }
        CHECK.holds("calls are shown", calls > 0);
        CHECK.due("texts are shown", texts, 1);
        everyCallIsNamed(readme);
        CHECK.end();
    }

    private static String readme() throws IOException {
        return Files.readString(Path.of("README.md"));
    }

    private static int callsOf(String block) throws Exception {
        SilenceCanal canal = new SilenceCanal();
        int calls = 0;
        Matcher call = CALL.matcher(block);
        while (call.find()) {
            calls++;
            CHECK.due(call.group(), answer(canal, call.group(1), call.group(2)), Long.parseLong(call.group(3)));
        }
        long shown = block.lines().filter(line -> line.startsWith("canal.")).count();
        CHECK.due("each call that is shown has its answer", calls, shown);
        return calls;
    }

    private static long answer(SilenceCanal canal, String name, String told) throws Exception {
        String[] numbers = told.isBlank() ? new String[0] : told.split(",");
        Object[] arguments = new Object[numbers.length];
        Class<?>[] types = new Class<?>[numbers.length];
        for (int i = 0; i < numbers.length; i++) {
            arguments[i] = Integer.valueOf(numbers[i].trim());
            types[i] = int.class;
        }
        return ((Number) SilenceCanal.class.getMethod(name, types).invoke(canal, arguments)).longValue();
    }

    private static void everyCallIsNamed(String readme) {
        for (Method m : SilenceCanal.class.getDeclaredMethods()) {
            if (Modifier.isPublic(m.getModifiers())) {
                CHECK.holds(m.getName() + " is named", readme.contains("`" + m.getName() + "`"));
            }
        }
    }
}
