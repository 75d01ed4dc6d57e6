import java.io.IOException;
import java.lang.reflect.Method;
import java.nio.file.Files;
import java.nio.file.Path;
import java.util.HashMap;
import java.util.Map;
import java.util.TreeSet;
import java.util.regex.Matcher;
import java.util.regex.Pattern;

/** The calls that README.md shows, one after the other on one object: each answers what stands behind it. */
public final class ReadmeTest {
    private static final Pattern CALL =
        Pattern.compile("(?:\\w+ (\\w+) = )?barn\\.(\\w+)\\((.*?)\\);\\s*// (-?\\d+|true|false): (.*)");
    private static final int BYTES_A_NUMBER = 4;

    private static final Answers ANSWERS = new Answers();
    private static final Map<String, Integer> NAMED = new HashMap<>();
    private static final TreeSet<String> SHOWN = new TreeSet<>();

    private static Object[] argumentsOf(String written) {
        String[] parts = written.isEmpty() ? new String[0] : written.split(", ");
        Object[] given = new Object[parts.length];
        for (int i = 0; i < parts.length; i++) {
            given[i] = NAMED.containsKey(parts[i]) ? NAMED.get(parts[i]) : Integer.valueOf(parts[i]);
        }
        return given;
    }

    private static String textOf(Object[] numbers) {
        StringBuilder text = new StringBuilder();
        for (Object number : numbers) {
            for (int shift = 8 * (BYTES_A_NUMBER - 1); shift >= 0; shift -= 8) {
                int next = (Integer) number >>> shift & 255;
                text.append(next == 0 ? "" : String.valueOf((char) next));
            }
        }
        return text.toString();
    }

    private static long wantedOf(String written) {
        return written.equals("true") ? 1 : written.equals("false") ? 0 : Long.parseLong(written);
    }

    private static void tryCall(CornBarn barn, Matcher call) {
        String name = call.group(2);
        Method method = Barns.methodOf(name);
        Object[] given = argumentsOf(call.group(3));
        long got = Barns.call(barn, method, given);
        ANSWERS.due(name + "(" + call.group(3) + ")", got, wantedOf(call.group(4)));
        if (name.equals("feed")) {
            ANSWERS.same("the text of " + call.group(3), "\"" + textOf(given) + "\"", call.group(5));
        }
        if (call.group(1) != null) {
            NAMED.put(call.group(1), (int) got);
        }
        SHOWN.add(name);
    }

    public static void main(String[] args) throws IOException {
        CornBarn barn = new CornBarn();
        for (String line : Files.readAllLines(Path.of("README.md"))) {
            Matcher call = CALL.matcher(line);
            if (call.matches()) {
                tryCall(barn, call);
            } else {
                ANSWERS.due("a call without its answer: " + line, line.startsWith("barn."), false);
            }
        }
        ANSWERS.due("calls of the face that are shown", SHOWN.size(), 27);
        ANSWERS.end();
    }
}
