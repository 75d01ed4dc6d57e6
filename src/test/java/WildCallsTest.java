import java.lang.management.ManagementFactory;
import java.lang.reflect.InvocationTargetException;
import java.lang.reflect.Method;
import java.lang.reflect.Modifier;
import java.util.ArrayList;
import java.util.Comparator;
import java.util.List;
import java.util.NoSuchElementException;
import java.util.Random;

/**
 * Any calls with any arguments: nothing but the promised exception comes out, the same calls give the same answers,
 * and a run of 512 calls makes little.
 */
public final class WildCallsTest {
    private static final int[] NUMBERS = {Integer.MIN_VALUE, -100000, -2, -1, 0, 0, 0, 1, 1, 2, 3, 4, 5, 6, 7, 11, 12, 13,
        19, 20, 21, 39, 40, 41, 98, 99, 100, 199, 200, 201, 240, 241, 1000001, Integer.MAX_VALUE};
    private static final String[] TEXTS = {"y 1;w 10 3;h 0 4 1;h 0 1 2", "y 2;w 30 9;w 5 9;h 0 20 9;h 1 3 3;m 4;c 2",
        "y 4;w 99 9;w 98 9;w 1 9;h 0 20 4;h 0 0 4;h 1 20 4;h 2 0 1;r 20", "y 3", "k:a-n", "k:a*p>r&!s=1?a/2;k:n", "k:p*p*p*p"};
    // 7.3 million fields and elements is the room; a long counts one and takes eight bytes.
    private static final long MOST_BYTES_A_RUN = 8_000_000L;

    private static int wrong = 0;

    private static void feed(CornBarn barn, String text) {
        barn.end(0);
        for (int i = 0; i < text.length(); i += 20) {
            int[] words = new int[5];
            for (int j = i; j < Math.min(text.length(), i + 20); j++) {
                words[(j - i) / 4] |= text.charAt(j) << 24 - (j - i) % 4 * 8;
            }
            barn.feed(words[0], words[1], words[2], words[3], words[4]);
        }
    }

    private static List<Method> face() {
        List<Method> methods = new ArrayList<>();
        for (Method method : CornBarn.class.getDeclaredMethods()) {
            if (Modifier.isPublic(method.getModifiers())) {
                methods.add(method);
            }
        }
        methods.sort(Comparator.comparing(Method::getName));
        return methods;
    }

    private static long answer(CornBarn barn, Method method, Object[] args) throws IllegalAccessException {
        try {
            Object got = method.invoke(barn, args);
            return got instanceof Boolean b ? b ? 1 : 0 : ((Number) got).longValue();
        } catch (InvocationTargetException e) {
            boolean promised = "harvest worth ran".contains(method.getName())
                && e.getCause().getClass() == NoSuchElementException.class;
            if (!promised) {
                wrong++;
                System.out.println(method.getName() + java.util.Arrays.toString(args) + " threw " + e.getCause());
            }
            return Long.MIN_VALUE;
        }
    }

    private static long run(List<Method> face, long seed) throws IllegalAccessException {
        Random random = new Random(seed);
        CornBarn barn = new CornBarn();
        boolean tame = random.nextBoolean();
        long sum = 0;
        for (int i = 0; i < 512; i++) {
            if (random.nextInt(20) == 0 || i < 6) {
                feed(barn, TEXTS[random.nextInt(TEXTS.length)]);
                sum = sum * 31 + barn.land() + 7 * barn.rule();
                continue;
            }
            Method method = face.get(random.nextInt(face.size()));
            Object[] args = new Object[method.getParameterCount()];
            for (int j = 0; j < args.length; j++) {
                args[j] = tame ? random.nextInt(4) : NUMBERS[random.nextInt(NUMBERS.length)];
            }
            sum = sum * 31 + answer(barn, method, args);
        }
        return sum;
    }

    private static void heaviestRun() {
        com.sun.management.ThreadMXBean threads = (com.sun.management.ThreadMXBean) ManagementFactory.getThreadMXBean();
        long before = threads.getCurrentThreadAllocatedBytes();
        CornBarn barn = new CornBarn();
        for (int i = 0; i < 6; i++) {
            feed(barn, TEXTS[2]);
            barn.land();
            feed(barn, TEXTS[5]);
            barn.rule();
        }
        for (int i = 0; i < 80; i++) {
            int land = i % 6;
            barn.by(land, i % 6);
            for (int sort = 0; sort < 5; sort++) {
                barn.welfare(land, sort, 12, i % 4, 40);
            }
            barn.edge(land, 12, i % 4, 40);
        }
        long made = threads.getCurrentThreadAllocatedBytes() - before;
        if (made > MOST_BYTES_A_RUN) {
            wrong++;
            System.out.println("a run made " + made + " bytes");
        }
    }

    public static void main(String[] args) throws IllegalAccessException {
        List<Method> face = face();
        int rounds = 3000;
        for (int seed = 0; seed < rounds; seed++) {
            if (run(face, seed) != run(face, seed)) {
                wrong++;
                System.out.println("run " + seed + " answered otherwise the second time");
            }
        }
        heaviestRun();
        System.out.println(rounds + " wild runs, " + wrong + " things wrong");
        if (wrong != 0) {
            System.exit(1);
        }
    }
}
