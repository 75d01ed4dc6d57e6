import java.lang.reflect.InvocationTargetException;
import java.lang.reflect.Method;
import java.util.NoSuchElementException;

/** What the tests share: texts fed to a barn, promised exceptions as numbers, all that a barn shows. */
final class Barns {
    static final int LOW = Integer.MIN_VALUE;
    static final int HIGH = Integer.MAX_VALUE;
    static final long THROWN = Long.MIN_VALUE;
    private static final int BYTES_A_FEED = 20;

    private Barns() {
    }

    /** Feeds a text, twenty bytes a call: what the last call answered. */
    static int feed(CornBarn barn, String text) {
        int last = 0;
        for (int i = 0; i < text.length(); i += BYTES_A_FEED) {
            int[] words = new int[5];
            for (int j = i; j < Math.min(text.length(), i + BYTES_A_FEED); j++) {
                words[(j - i) / 4] |= text.charAt(j) << 24 - (j - i) % 4 * 8;
            }
            last = barn.feed(words[0], words[1], words[2], words[3], words[4]);
        }
        return last;
    }

    static CornBarn withLands(String... texts) {
        CornBarn barn = new CornBarn();
        for (String text : texts) {
            tellLand(barn, text);
        }
        return barn;
    }

    static int tellLand(CornBarn barn, String text) {
        barn.end(0);
        feed(barn, text);
        return barn.land();
    }

    static int tellRule(CornBarn barn, String text) {
        barn.end(0);
        feed(barn, text);
        return barn.rule();
    }

    /** A barn with one land, that keeps by the rule. */
    static CornBarn withRule(String land, String rule) {
        CornBarn barn = withLands(land);
        barn.by(0, tellRule(barn, rule));
        return barn;
    }

    static void rows(CornBarn barn, int row, int... harvests) {
        for (int sacks : harvests) {
            barn.row(row, sacks);
        }
    }

    static int faultOf(int sort, String text) {
        CornBarn barn = new CornBarn();
        feed(barn, text);
        return barn.fault(sort);
    }

    static long worthOf(String text, int a, int s, int n, int p, int r) {
        CornBarn barn = new CornBarn();
        tellRule(barn, text);
        return worth(barn, 0, a, s, n, p, r);
    }

    static long worthOf(String text) {
        return worthOf(text, 0, 0, 0, 0, 0);
    }

    static long worth(CornBarn barn, int rule, int a, int s, int n, int p, int r) {
        try {
            return barn.worth(rule, a, s, n, p, r);
        } catch (NoSuchElementException e) {
            return THROWN;
        }
    }

    static long harvest(CornBarn barn, int land, int season, int i, int what) {
        try {
            return barn.harvest(land, season, i, what);
        } catch (NoSuchElementException e) {
            return THROWN;
        }
    }

    static long ran(CornBarn barn, int town, int i, int what) {
        try {
            return barn.ran(town, i, what);
        } catch (NoSuchElementException e) {
            return THROWN;
        }
    }

    /** All seven numbers of a season that ran, as a text; "none" if there is no such season. */
    static String ranAll(CornBarn barn, int town, int i) {
        StringBuilder seen = new StringBuilder();
        for (int what = 0; what < 7; what++) {
            long one = ran(barn, town, i, what);
            if (one == THROWN) {
                return "none";
            }
            seen.append(what == 0 ? "" : " ").append(one);
        }
        return seen.toString();
    }

    /** A call of the face by its name: true is 1, false 0, the promised exception THROWN. */
    static long call(CornBarn barn, String name, int... args) {
        Object[] given = new Object[args.length];
        for (int i = 0; i < args.length; i++) {
            given[i] = args[i];
        }
        return call(barn, methodOf(name), given);
    }

    static Method methodOf(String name) {
        for (Method method : CornBarn.class.getMethods()) {
            if (method.getName().equals(name)) {
                return method;
            }
        }
        throw new IllegalStateException("the face has no " + name);
    }

    static long call(CornBarn barn, Method method, Object[] args) {
        try {
            Object got = method.invoke(barn, args);
            return got instanceof Boolean b ? b ? 1 : 0 : ((Number) got).longValue();
        } catch (InvocationTargetException e) {
            boolean promised = "harvest worth ran".contains(method.getName())
                && e.getCause().getClass() == NoSuchElementException.class;
            if (promised) {
                return THROWN;
            }
            throw new IllegalStateException(method.getName() + java.util.Arrays.toString(args), e.getCause());
        } catch (IllegalAccessException e) {
            throw new IllegalStateException(e);
        }
    }

    /** What a barn shows of its tape, lands, rules and latest run, without changing it. */
    static String look(CornBarn barn) {
        StringBuilder seen = new StringBuilder();
        for (int what = 0; what < 5; what++) {
            seen.append(barn.count(what)).append(' ');
        }
        seen.append("faults ").append(barn.fault(0)).append(' ').append(barn.fault(1));
        for (int land = 0; land < barn.count(0); land++) {
            seen.append(" land");
            for (int what = 0; what < 8; what++) {
                seen.append(' ').append(barn.told(land, what));
            }
            for (int sort = 1; sort < 5; sort++) {
                seen.append(' ').append(barn.keep(land, sort, 2, 0, 12));
            }
            for (int season = 0; season < barn.told(land, 0); season++) {
                seen.append(" judged ").append(barn.judge(land, 2, season));
            }
        }
        for (int rule = 0; rule < barn.count(1); rule++) {
            seen.append(" rule ").append(worth(barn, rule, 5, 1, 3, 7, 9));
        }
        return seen.append(" spent ").append(barn.spent()).append(lookAtRun(barn)).toString();
    }

    private static String lookAtRun(CornBarn barn) {
        StringBuilder seen = new StringBuilder();
        for (int town = 0; town < 2; town++) {
            for (int i = 0; ran(barn, town, i, 0) != THROWN; i++) {
                seen.append(" ran ").append(ranAll(barn, town, i));
            }
        }
        return seen.toString();
    }
}
