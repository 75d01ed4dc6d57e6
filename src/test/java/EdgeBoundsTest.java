/**
 * Each argument that the document bounds, at both its ends, one step past them, and at the ends of int; a refused call
 * answers as its promise says and leaves all as it was.
 */
public final class EdgeBoundsTest {
    private static final Answers ANSWERS = new Answers();
    private static final long FALSE = 0;
    private static final int[] LAND = {0, 0, 1};
    private static final int[] KEEPERS = {0, 1, 4};
    private static final int[] TO_GO = {1, 2, 12};
    private static final int[] SEASON = {0, 1, 3};
    private static final int[] AMOUNT = {0, 20, 40};
    private static final int[] LEFT = {0, 3, 20};
    private static final int[] ANY = {Barns.LOW, 5, Barns.HIGH};

    /**
     * Two lands of four seasons with two harvests each, two rules, rows of three and two, a granary in each land,
     * five bytes on the tape; the latest run is one of both towns. In land 1 nobody keeps for money: its told table
     * of zeros is right but for the highest amount, so that what is told there is seen.
     */
    private static CornBarn made() {
        CornBarn barn = Barns.withLands(
            "y 4;w 20 9;w 9 9;h 0 3 1;h 0 9 1;h 1 1 1;h 1 0 1;h 2 2 1;h 2 0 1;h 3 0 1;h 3 1 1;c 1",
            "y 4;w 20 9;w 9 9;h 0 3 1;h 0 9 1;h 1 1 1;h 1 0 1;h 2 2 1;h 2 0 1;h 3 0 1;h 3 1 1;c 30");
        barn.by(0, Barns.tellRule(barn, "k:a/2"));
        barn.by(1, Barns.tellRule(barn, "k:a/3"));
        barn.granary(0, 5, 10, 4);
        barn.granary(1, 6, 12, 3);
        for (int season = 0; season < 4; season++) {
            barn.tell(0, season, 40, 20);
        }
        Barns.rows(barn, 0, 19, 3, 1);
        Barns.rows(barn, 1, 17, 2);
        barn.towns(0, 1, 1, 3, 4, 5, 2);
        Barns.feed(barn, "y 1;w");
        return barn;
    }

    /** What a barn shows, also by runs, which change it: for the end of a test alone. */
    private static String trace(CornBarn barn) {
        StringBuilder seen = new StringBuilder(Barns.look(barn));
        for (int land = 0; land < 2; land++) {
            seen.append(" run ").append(barn.run(land, 0, 1, 15)).append(" spent ").append(barn.spent());
            for (int i = 0; i < 3; i++) {
                seen.append(" ran ").append(Barns.ranAll(barn, 0, i));
            }
        }
        seen.append(" towns ").append(barn.towns(0, 1, 4, 2, 1, 2, 0));
        for (int town = 0; town < 2; town++) {
            for (int i = 0; i < 2; i++) {
                seen.append(" ran ").append(Barns.ranAll(barn, town, i));
            }
        }
        return seen.toString();
    }

    private static final String UNTOUCHED = trace(made());

    private static void sentence(int promise, String words) {
        ANSWERS.sentence(promise, words);
    }

    private static String shown(String name, int[] args) {
        StringBuilder text = new StringBuilder(name).append('(');
        for (int i = 0; i < args.length; i++) {
            text.append(i == 0 ? "" : ", ").append(args[i]);
        }
        return text.append(')').toString();
    }

    private static void refused(String name, long answer, int... args) {
        CornBarn barn = made();
        ANSWERS.due(shown(name, args), Barns.call(barn, name, args), answer);
        ANSWERS.same("all behind " + shown(name, args), trace(barn), UNTOUCHED);
    }

    private static void taken(String name, long refusal, int... args) {
        boolean refused = Barns.call(made(), name, args) == refusal;
        ANSWERS.due(shown(name, args) + " is refused", refused, false);
    }

    /** Each argument, told as {lowest, an ordinary one, highest}, at its ends and past them, the others ordinary. */
    private static void bounds(String name, long refusal, int[]... arguments) {
        int[] args = new int[arguments.length];
        for (int i = 0; i < args.length; i++) {
            args[i] = arguments[i][1];
        }
        taken(name, refusal, args);
        for (int i = 0; i < args.length; i++) {
            int[] with = args.clone();
            for (int end = 0; end <= 2; end += 2) {
                with[i] = arguments[i][end];
                taken(name, refusal, with);
            }
            if (arguments[i] != ANY) {
                for (int off : new int[] {arguments[i][0] - 1, arguments[i][2] + 1, Barns.LOW, Barns.HIGH}) {
                    with[i] = off;
                    refused(name, refusal, with);
                }
            }
        }
        corners(name, refusal, arguments);
    }

    /** All arguments at their lowest, and all at their highest. */
    private static void corners(String name, long refusal, int[]... arguments) {
        int[] lowest = new int[arguments.length];
        int[] highest = new int[arguments.length];
        for (int i = 0; i < arguments.length; i++) {
            lowest[i] = arguments[i][0];
            highest[i] = arguments[i][2];
        }
        taken(name, refusal, lowest);
        taken(name, refusal, highest);
    }

    private static void textsAndLands() {
        sentence(2, "NONE: more than 240");
        CornBarn full = made();
        full.end(0);
        for (int i = 0; i < 12; i++) {
            full.feed(-1, -1, -1, -1, -1);
        }
        String before = Barns.look(full);
        ANSWERS.due("feed of a 241st", full.feed(0, 0, 0, 0, 1), -1);
        ANSWERS.same("all behind it", Barns.look(full), before);
        sentence(3, "False: n");
        bounds("end", FALSE, new int[] {0, 3, 5});
        sentence(4, "-2: no such sort");
        bounds("fault", -2, new int[] {0, 0, 1});
        sentence(5, "NONE: a FAULT");
        refused("land", -1);
        sentence(6, "NONE: a FAULT");
        refused("rule", -1);
        sentence(7, "NONE for others");
        bounds("told", -1, LAND, new int[] {0, 3, 7});
        sentence(8, "NoSuchElementException: no such ones");
        bounds("harvest", Barns.THROWN, LAND, SEASON, new int[] {0, 1, 1}, new int[] {0, 1, 1});
        sentence(9, "With e EATEN (0 .. 200); NONE: no such ones");
        bounds("eaten", -1, LAND, new int[] {0, 7, 200}, new int[] {0, 1, 2});
        sentence(10, "LEFT of k KEPT (0 .. 20). NONE: no such ones");
        bounds("left", -1, LAND, new int[] {0, 7, 20});
        sentence(11, "The LAW. False: no such LAND, out of bounds");
        bounds("law", FALSE, LAND, new int[] {0, 7, 20});
        sentence(12, "The RULE of a LAND (NONE: none). False: no such ones");
        bounds("by", FALSE, LAND, new int[] {-1, 0, 1});
        sentence(13, "NoSuchElementException: no such RULE");
        bounds("worth", Barns.THROWN, new int[] {0, 0, 1}, ANY, ANY, ANY, ANY, ANY);
    }

    private static void keepers() {
        sentence(14, "KEPT by KEEPERS (0 .. 4) with n to go. NONE: no such ones");
        bounds("keep", -1, LAND, KEEPERS, TO_GO, SEASON, AMOUNT);
        sentence(15, "NONE likewise");
        bounds("sold", -1, LAND, KEEPERS, TO_GO, SEASON, AMOUNT);
        sentence(16, "NONE likewise");
        bounds("price", -1, LAND, KEEPERS, TO_GO, SEASON, AMOUNT);
        sentence(17, "BELOW. NONE: no such ones");
        bounds("below", -1, LAND, TO_GO, SEASON);
        sentence(18, "WELFARE. NONE: no such ones");
        bounds("welfare", -1, LAND, KEEPERS, TO_GO, SEASON, AMOUNT);
        sentence(19, "TAKINGS of ONE. NONE: no such ones");
        bounds("takings", -1, LAND, TO_GO, SEASON, AMOUNT);
        sentence(21, "EVER. NONE: no such ones");
        bounds("ever", -1, LAND, KEEPERS);
        sentence(22, "EDGE. NONE: no such ones");
        bounds("edge", -1, LAND, TO_GO, SEASON, AMOUNT);
        sentence(24, "JUDGED. NONE: no such ones");
        bounds("judge", -1, new int[] {0, 0, 0}, TO_GO, SEASON);
        refused("judge", -1, 2, 2, 0);
        sentence(25, "NEWS (n 2 at least). NONE: no such ones");
        bounds("news", -1, LAND, new int[] {2, 3, 12}, SEASON, AMOUNT);
    }

    private static void unlikeOnes() {
        sentence(20, "NONE: no such ones");
        // ALL and GOOD keep alike in land 1, and with one season to go: no answer but NONE there.
        int[][] wrongs = {{-1, 2, 0}, {2, 2, 0}, {Barns.LOW, 2, 0}, {Barns.HIGH, 2, 0}, {0, 0, 0}, {0, 13, 0},
            {0, Barns.LOW, 0}, {0, Barns.HIGH, 0}, {0, 2, -1}, {0, 2, 4}, {0, 2, Barns.LOW}, {0, 2, Barns.HIGH}};
        for (int[] args : wrongs) {
            refused("unlike", -1, args);
        }
        int[][] rights = {{0, 2, 0}, {0, 2, 1}, {0, 12, 0}, {0, 12, 3}};
        for (int[] args : rights) {
            taken("unlike", -1, args);
        }
        refused("unlike", -1, 0, 1, 0);
        refused("unlike", -1, 1, 2, 0);
    }

    private static void toldTables() {
        sentence(23, "so much (0 .. 20) is KEPT. False: no such ones, more than the AMOUNT");
        bounds("tell", FALSE, new int[] {0, 1, 1}, SEASON, new int[] {0, 20, 40}, new int[] {0, 0, 20});
        int[][] wrongs = {{1, 0, 0, 1}, {1, 3, 1, 2}, {1, 3, 19, 20}, {1, 0, 20, 21}, {1, 0, 40, 21}, {1, 0, 0, -1}};
        for (int[] args : wrongs) {
            refused("tell", FALSE, args);
        }
        int[][] rights = {{1, 0, 0, 0}, {1, 3, 1, 1}, {1, 3, 19, 19}, {1, 0, 20, 20}, {1, 0, 21, 20}, {1, 0, 40, 20}};
        for (int[] args : rights) {
            taken("tell", FALSE, args);
        }
    }

    private static void runsAndRows() {
        sentence(26, "AFTER t SEASONS (0 .. 6). NONE: no such ones");
        bounds("after", -1, LAND, KEEPERS, TO_GO, SEASON, AMOUNT, new int[] {0, 2, 6}, new int[] {0, 3, 4}, ANY);
        sentence(27, "NONE: out of bounds");
        bounds("row", -1, new int[] {0, 0, 1}, new int[] {0, 7, 20});
        sentence(28, "NONE: no such ROW");
        bounds("clear", -1, new int[] {0, 0, 1});
        sentence(30, "A RUN from what is LEFT from before (0 .. 20). NONE: no such ones");
        bounds("run", -1, LAND, KEEPERS, TO_GO, LEFT);
        sentence(34, "BLAME (as for run). HIDDEN: no such ones");
        bounds("blame", CornBarn.HIDDEN, LAND, KEEPERS, TO_GO, LEFT);
        sentence(32, "NoSuchElementException: no such ones");
        bounds("ran", Barns.THROWN, new int[] {0, 0, 1}, new int[] {0, 0, 1}, new int[] {0, 2, 6});
        sentence(35, "NONE for others");
        bounds("count", -1, new int[] {0, 2, 4});
    }

    private static void granaries() {
        sentence(29, "False: no such LAND, out of bounds, BUY above SELL");
        bounds("granary", FALSE, LAND, new int[] {0, 5, 50}, new int[] {5, 50, 99}, new int[] {0, 7, 20});
        int[][] wrongs = {{0, 1, 0, 5}, {0, 99, 98, 5}, {0, 51, 50, 5}, {0, -1, -1, 5}, {0, 100, 100, 5}, {0, 99, 100, 5},
            {0, -1, 0, 5}};
        for (int[] args : wrongs) {
            refused("granary", FALSE, args);
        }
        int[][] rights = {{0, 0, 0, 0}, {0, 99, 99, 20}, {0, 0, 99, 5}, {0, 50, 50, 5}, {0, 98, 99, 5}};
        for (int[] args : rights) {
            taken("granary", FALSE, args);
        }
    }

    private static void twoTowns() {
        sentence(31, "NONE: no such ones, alike, unlike years, ONE");
        int[] one = {0, 0, 0};
        int[] other = {1, 1, 1};
        int[] road = {0, 5, 99};
        bounds("towns", -1, one, other, KEEPERS, TO_GO, LEFT, LEFT, road);
        bounds("towns", -1, other, one, KEEPERS, TO_GO, LEFT, LEFT, road);
        refused("towns", -1, 0, 2, 1, 2, 0, 0, 5);
        refused("towns", -1, 2, 0, 1, 2, 0, 0, 5);
        refused("towns", -1, 1, 1, 1, 2, 0, 0, 5);
        refused("towns", -1, 0, 1, 3, 2, 0, 0, 5);
        taken("towns", -1, 0, 1, 2, 2, 0, 0, 5);
        CornBarn barn = Barns.withLands("y 1", "y 2", "y 3", "y 4", "y 4");
        for (int first = 0; first < 5; first++) {
            for (int second = 0; second < 5; second++) {
                boolean fine = first + second == 7 && first != second;
                ANSWERS.due("towns " + first + " and " + second, barn.towns(first, second, 0, 1, 0, 0, 0), fine ? 0 : -1);
            }
        }
    }

    private static void noRunYet() {
        sentence(33, "0 without one");
        CornBarn barn = Barns.withLands("y 1;w 9 2");
        barn.granary(0, 99, 99, 20);
        Barns.rows(barn, 0, 1);
        ANSWERS.due("spent()", barn.spent(), 0);
        ANSWERS.due("a refused run", barn.run(0, 0, 1, 21), -1);
        ANSWERS.due("spent() behind it", barn.spent(), 0);
        ANSWERS.due("a blame", barn.blame(0, 1, 1, 0), 0);
        ANSWERS.due("spent() behind it", barn.spent(), 0);
        ANSWERS.due("nothing ran", Barns.ran(barn, 0, 0, 0), Barns.THROWN);
    }

    public static void main(String[] args) {
        textsAndLands();
        keepers();
        unlikeOnes();
        toldTables();
        runsAndRows();
        granaries();
        twoTowns();
        noRunYet();
        for (int promise = 2; promise <= 35; promise++) {
            ANSWERS.due(promise, "has a sentence here", ANSWERS.names(promise), true);
        }
        ANSWERS.end();
    }
}
