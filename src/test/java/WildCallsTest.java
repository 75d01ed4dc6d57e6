import java.lang.management.ManagementFactory;
import java.lang.reflect.Method;
import java.lang.reflect.Modifier;
import java.util.ArrayList;
import java.util.Comparator;
import java.util.List;
import java.util.Random;

/**
 * Any calls with any arguments: nothing but the promised exception comes out, the same calls give the same answers,
 * and a run of 512 calls makes little.
 */
public final class WildCallsTest {
    private static final int[] NUMBERS = {Integer.MIN_VALUE, -100000, -2, -1, 0, 0, 0, 1, 1, 2, 3, 4, 5, 6, 7, 11, 12, 13,
        19, 20, 21, 39, 40, 41, 98, 99, 100, 199, 200, 201, 240, 241, 1000001, Integer.MAX_VALUE};
    private static final String[] LANDS = {"y 1;w 10 3;h 0 4 1;h 0 1 2", "y 2;w 30 9;w 5 9;h 0 20 9;h 1 3 3;m 4;c 2",
        "y 4;w 99 9;w 98 9;w 1 9;h 0 20 4;h 0 0 4;h 1 20 4;h 2 0 1;r 20", "y 3", "y 1;w 99 9;w 98 9;w 97 9;h 0 20 1;m 20"};
    private static final String[] RULES = {"k:a-n", "k:a*p>r&!s=1?a/2;k:n", "k:p*p*p*p", "k:99"};
    // 7.3 million fields and elements is the room; a long counts one and takes eight bytes.
    private static final long MOST_BYTES_A_RUN = 8_000_000L;
    private static final int CALLS = 512;
    private static final int ROUNDS = 3000;

    private static List<Method> face() {
        List<Method> methods = new ArrayList<>();
        for (Method method : CornBarn.class.getDeclaredMethods()) {
            if (Modifier.isPublic(method.getModifiers())) {
                methods.add(method);
            }
        }
        methods.sort(Comparator.comparing(Method::getName));
        return methods;
    }

    private static <T> T oneOf(T[] some, Random random) {
        return some[random.nextInt(some.length)];
    }

    private static long run(List<Method> face, long seed) {
        Random random = new Random(seed);
        CornBarn barn = new CornBarn();
        boolean tame = random.nextBoolean();
        long sum = 0;
        for (int i = 0; i < CALLS; i++) {
            if (random.nextInt(20) == 0 || i < 6) {
                sum = sum * 31 + Barns.tellLand(barn, oneOf(LANDS, random));
                sum = sum * 31 + Barns.tellRule(barn, oneOf(RULES, random));
                continue;
            }
            Method method = face.get(random.nextInt(face.size()));
            Object[] args = new Object[method.getParameterCount()];
            for (int j = 0; j < args.length; j++) {
                args[j] = tame ? random.nextInt(4) : NUMBERS[random.nextInt(NUMBERS.length)];
            }
            sum = sum * 31 + Barns.call(barn, method, args);
        }
        return sum;
    }

    private static long bytesOfHeaviestRun() {
        com.sun.management.ThreadMXBean threads = (com.sun.management.ThreadMXBean) ManagementFactory.getThreadMXBean();
        long before = threads.getCurrentThreadAllocatedBytes();
        CornBarn barn = new CornBarn();
        for (int i = 0; i < 6; i++) {
            Barns.tellLand(barn, LANDS[2]);
            Barns.tellRule(barn, RULES[1]);
        }
        for (int i = 0; i < 80; i++) {
            int land = i % 6;
            barn.by(land, i % 6);
            for (int sort = 0; sort < 5; sort++) {
                barn.welfare(land, sort, 12, i % 4, 40);
            }
            barn.edge(land, 12, i % 4, 40);
        }
        return threads.getCurrentThreadAllocatedBytes() - before;
    }

    public static void main(String[] args) {
        Answers answers = new Answers();
        List<Method> face = face();
        for (int seed = 0; seed < ROUNDS; seed++) {
            answers.due("wild run " + seed + " a second time", run(face, seed), run(face, seed));
        }
        answers.due("little made in the heaviest run", bytesOfHeaviestRun() <= MOST_BYTES_A_RUN, true);
        answers.end();
    }
}
