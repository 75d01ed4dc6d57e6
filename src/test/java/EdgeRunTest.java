/**
 * The edges of what comes after: seasons by chances, rows, runs, the granary, two towns, blame. One method for each
 * sentence of the document that names such an edge; the answers are worked out by hand.
 */
public final class EdgeRunTest {
    private static final int NONE = 0;
    private static final int ALL = 1;
    private static final int ONE = 3;
    private static final int RULE = 4;
    private static final int LONGEST = 40;

    private static final Answers ANSWERS = new Answers();

    /** The seasons of the latest run, each as amount, kept, eaten, price, hungry, granary, carried. */
    private static void ran(CornBarn barn, int town, String... seasons) {
        for (int i = 0; i < seasons.length; i++) {
            ANSWERS.same("season " + i + " of town " + town, Barns.ranAll(barn, town, i), seasons[i]);
        }
        ANSWERS.same("behind the last season", Barns.ranAll(barn, town, seasons.length), "none");
    }

    private static CornBarn withRow(String land, int... harvests) {
        CornBarn barn = Barns.withLands(land);
        Barns.rows(barn, 0, harvests);
        return barn;
    }

    // After some seasons

    private static void afterNoSeason() {
        ANSWERS.sentence(26, "AFTER t SEASONS (0 .. 6) from a SEASON with an AMOUNT");
        CornBarn barn = Barns.withLands("y 1;w 10 1;w 6 1;w 3 1;h 0 1 9;h 0 3 3");
        ANSWERS.due("t 0: all weights", barn.after(0, NONE, 1, 0, 2, 0, 4, 0), 1);
        ANSWERS.due("t 0: price", barn.after(0, NONE, 1, 0, 2, 0, 3, 0), 3);
        ANSWERS.due("t 0: nothing kept", barn.after(0, NONE, 1, 0, 2, 0, 1, 0), 1);
        ANSWERS.due("t 1: all weights", barn.after(0, NONE, 1, 0, 2, 1, 4, 0), 12);
        ANSWERS.due("t 6: all weights", barn.after(0, NONE, 1, 0, 2, 6, 4, 0), 2985984);
        ANSWERS.due("t 6: prices", barn.after(0, NONE, 1, 0, 2, 6, 3, 0), 248832 * (9 * 6 + 3 * 0));
        ANSWERS.due("t 7", barn.after(0, NONE, 1, 0, 2, 7, 4, 0), -1);
        ANSWERS.due("t -1", barn.after(0, NONE, 1, 0, 2, -1, 4, 0), -1);
    }

    private static void amountAtMost() {
        ANSWERS.sentence(26, "that the AMOUNT is x at most");
        CornBarn barn = Barns.withRule("y 1;h 0 20 2;h 0 0 1", "k:99");
        int[][] due = {{Barns.LOW, 0}, {-1, 0}, {19, 0}, {20, 1}, {39, 1}, {40, 3}, {41, 3}, {Barns.HIGH, 3}};
        for (int[] row : due) {
            ANSWERS.due("x " + row[0], barn.after(0, RULE, 2, 0, 40, 1, 0, row[0]), row[1]);
        }
        ANSWERS.due("t 0, x 7 of 7", barn.after(0, RULE, 2, 0, 7, 0, 0, 7), 1);
        ANSWERS.due("t 0, x 6 of 7", barn.after(0, RULE, 2, 0, 7, 0, 0, 6), 0);
        ANSWERS.due("t 0, x 0 of 0", barn.after(0, RULE, 2, 0, 0, 0, 0, 0), 1);
        ANSWERS.due("t 6: 40 by two of three each time", barn.after(0, RULE, 2, 0, 40, 6, 0, 39), 729 - 486);
    }

    private static void priceOrMore() {
        ANSWERS.sentence(26, "that the PRICE is x or more");
        CornBarn barn = Barns.withLands("y 1;w 10 1;w 6 1;h 0 1 2;h 0 2 1");
        int[][] due = {{Barns.LOW, 3}, {0, 3}, {1, 2}, {6, 2}, {7, 0}, {99, 0}, {Barns.HIGH, 0}};
        for (int[] row : due) {
            ANSWERS.due("x " + row[0], barn.after(0, NONE, 1, 0, 0, 1, 2, row[0]), row[1]);
        }
        ANSWERS.due("ONE sells nothing: 100 or more", barn.after(0, ONE, 1, 0, 0, 0, 2, 100), 1);
        ANSWERS.due("ONE sells nothing: 101 or more", barn.after(0, ONE, 1, 0, 0, 0, 2, 101), 0);
    }

    private static void nothingKept() {
        ANSWERS.sentence(26, "that nothing is KEPT");
        CornBarn barn = Barns.withRule("y 1;h 0 1 2;h 0 0 1", "k:a-1");
        ANSWERS.due("of 0 and 1", barn.after(0, RULE, 2, 0, 0, 1, 1, 0), 3);
        // Of three two are kept: three or two stand there then.
        ANSWERS.due("of 3 and 2", barn.after(0, RULE, 2, 0, 3, 1, 1, 0), 0);
        // Of two one is kept: two (of which one is) or one.
        ANSWERS.due("of 2 and 1", barn.after(0, RULE, 2, 0, 2, 1, 1, 0), 1);
        ANSWERS.due("with n 1", barn.after(0, RULE, 1, 0, 3, 1, 1, 0), 3);
    }

    private static void roundTheYear() {
        ANSWERS.sentence(26, "the product of what the SEASONS behind the first one weigh");
        CornBarn barn = Barns.withLands("y 4;h 0 1 2;h 1 1 3;h 2 1 5;h 3 1 7");
        long[] due = {1, 2, 6, 30, 210, 420, 1260};
        for (int t = 0; t <= 6; t++) {
            ANSWERS.due("from season 3, t " + t, barn.after(0, NONE, 1, 3, 0, t, 4, 0), due[t]);
        }
        ANSWERS.due("from season 0, t 1", barn.after(0, NONE, 1, 0, 0, 1, 4, 0), 3);
        CornBarn two = Barns.withRule("y 2;w 9 1;h 0 4 1", "k:s=1&n=3?2");
        ANSWERS.sentence(26, "KEEPERS keeping each time as with n to go");
        ANSWERS.due("in season 1 two are kept", two.after(0, RULE, 3, 1, 6, 1, 0, 5), 0);
        ANSWERS.due("six then", two.after(0, RULE, 3, 1, 6, 1, 0, 6), 1);
        ANSWERS.due("in season 0 nothing", two.after(0, RULE, 3, 1, 6, 2, 0, 0), 1);
        ANSWERS.due("with n 2 nothing", two.after(0, RULE, 2, 1, 6, 1, 0, 4), 1);
        // Of two in season 1 both are kept, so that nobody eats.
        ANSWERS.due("the price of what is not kept", two.after(0, RULE, 3, 1, 2, 0, 3, 0), 9);
        ANSWERS.due("the price of what is not kept, x or more", two.after(0, RULE, 3, 1, 2, 0, 2, 9), 1);
    }

    // Rows

    private static void fortyInARow() {
        ANSWERS.sentence(27, "ROWS 0 and 1 of HARVESTS (40 at most each, 0 .. 20); NONE: out of bounds, there are 40");
        for (int row = 0; row < 2; row++) {
            CornBarn barn = new CornBarn();
            for (int i = 1; i <= LONGEST; i++) {
                ANSWERS.due("row(" + row + ")", barn.row(row, i % 21), i);
            }
            ANSWERS.due("a 41st", barn.row(row, 0), -1);
            ANSWERS.due("forty", barn.count(2 + row), LONGEST);
            ANSWERS.due("the other", barn.count(3 - row), 0);
            ANSWERS.due("one in the other", barn.row(1 - row, 20), 1);
            ANSWERS.due("21 sacks", barn.row(1 - row, 21), -1);
            ANSWERS.due("-1 sack", barn.row(1 - row, -1), -1);
            ANSWERS.due("one still", barn.count(3 - row), 1);
            ANSWERS.sentence(28, "A ROW is empty: how many there were");
            ANSWERS.due("clear(" + row + ")", barn.clear(row), LONGEST);
            ANSWERS.due("none", barn.count(2 + row), 0);
            ANSWERS.due("none more", barn.clear(row), 0);
            ANSWERS.due("the other stays", barn.count(3 - row), 1);
            ANSWERS.sentence(27, "A HARVEST more in a ROW: how many there are");
            ANSWERS.due("the first again", barn.row(row, 0), 1);
        }
    }

    private static void clearedRows() {
        ANSWERS.sentence(28, "A ROW is empty");
        CornBarn barn = withRow("y 1;w 9 1", 7, 8);
        barn.run(0, NONE, 1, 0);
        barn.clear(0);
        ran(barn, 0, "7 0 1 0 0 0 0", "8 0 1 0 0 0 0");
        barn.row(0, 3);
        ANSWERS.due("one season", barn.run(0, NONE, 1, 0), 1);
        ran(barn, 0, "3 0 1 0 0 0 0");
        ANSWERS.due("no such row", barn.clear(2), -1);
        ANSWERS.due("no such row", barn.clear(-1), -1);
    }

    // Runs

    private static void runThroughTheRow() {
        ANSWERS.sentence(30, "A RUN goes through ROW 0: how many SEASONS");
        CornBarn barn = Barns.withLands("y 1;w 9 1");
        Barns.rows(barn, 1, 5, 5, 5);
        ANSWERS.due("an empty row", barn.run(0, NONE, 1, 20), 0);
        ran(barn, 0);
        ANSWERS.due("nothing spent", barn.spent(), 0);
        for (int i = 0; i < LONGEST; i++) {
            barn.row(0, i % 21);
        }
        ANSWERS.due("forty", barn.run(0, NONE, 1, 0), LONGEST);
        ANSWERS.same("the fortieth", Barns.ranAll(barn, 0, 39), "18 0 1 0 0 0 0");
        ANSWERS.same("no more", Barns.ranAll(barn, 0, 40), "none");
    }

    private static void leftFromBefore() {
        ANSWERS.sentence(30, "from what is LEFT from before (0 .. 20)");
        CornBarn barn = withRow("y 1;w 9 1", 20, 0);
        ANSWERS.due("0", barn.run(0, NONE, 1, 0), 2);
        ran(barn, 0, "20 0 1 0 0 0 0", "0 0 0 9 1 0 0");
        ANSWERS.due("20", barn.run(0, NONE, 1, 20), 2);
        ran(barn, 0, "40 0 1 0 0 0 0", "0 0 0 9 1 0 0");
        ANSWERS.due("-1", barn.run(0, NONE, 1, -1), -1);
        ANSWERS.due("21", barn.run(0, NONE, 1, 21), -1);
        ran(barn, 0, "40 0 1 0 0 0 0", "0 0 0 9 1 0 0");
    }

    private static void leftAndHarvest() {
        ANSWERS.sentence(30, "the next SEASON's AMOUNT is what is LEFT and its HARVEST");
        CornBarn barn = Barns.withRule("y 1;w 9 1", "k:99");
        Barns.rows(barn, 0, 20, 20, 20, 0, 0);
        ANSWERS.due("run", barn.run(0, RULE, 12, 20), 5);
        ran(barn, 0, "40 20 1 0 0 0 0", "40 20 1 0 0 0 0", "40 20 1 0 0 0 0", "20 20 0 9 1 0 0", "20 20 0 9 1 0 0");
        CornBarn mice = Barns.withRule("y 1;w 9 1;m 2", "k:99");
        Barns.rows(mice, 0, 20, 3, 0, 0, 0, 0, 0);
        ANSWERS.due("run", mice.run(0, RULE, 2, 0), 7);
        ran(mice, 0, "20 20 0 9 1 0 0", "13 13 0 9 1 0 0", "7 7 0 9 1 0 0", "4 4 0 9 1 0 0", "2 2 0 9 1 0 0",
            "1 1 0 9 1 0 0", "1 1 0 9 1 0 0");
    }

    private static void roundAndRound() {
        ANSWERS.sentence(30, "SEASON 0, 1, .., round and round; each time KEEPERS keep as with n to go");
        for (int seasons = 1; seasons <= 4; seasons++) {
            CornBarn barn = Barns.withRule("y " + seasons + ";w 9 1", "k:s+1");
            Barns.rows(barn, 0, 20, 20, 20, 20, 20, 20, 20, 20, 20);
            barn.run(0, RULE, 2, 0);
            for (int i = 0; i < 9; i++) {
                ANSWERS.due("kept in " + i + " of " + seasons, Barns.ran(barn, 0, i, 1), i % seasons + 1);
            }
            barn.run(0, RULE, 1, 0);
            ANSWERS.due("n 1: nothing kept", Barns.ran(barn, 0, 8, 1), 0);
        }
    }

    private static void runOfOne() {
        ANSWERS.sentence(30, "then, not with ONE, the GRANARY");
        CornBarn barn = withRow("y 1;w 10 1;w 6 1;w 3 1", 5, 0, 1);
        barn.granary(0, 99, 99, 20);
        ANSWERS.due("run", barn.run(0, ONE, 1, 0), 3);
        ran(barn, 0, "5 0 2 6 1 0 0", "0 0 0 100 3 0 0", "1 0 1 10 2 0 0");
        ANSWERS.due("nothing spent", barn.spent(), 0);
    }

    // Granaries

    private static void granaryAtFirst() {
        ANSWERS.sentence(29, "a price to BUY below, one to SELL above (0 .. 99 each; 0 at first), its own room (0 .. 20; 0 at first)");
        CornBarn barn = withRow("y 1;w 10 1;w 6 1", 3, 0);
        barn.run(0, NONE, 1, 0);
        ran(barn, 0, "3 0 2 0 0 0 0", "0 0 0 10 2 0 0");
        barn.granary(0, 0, 0, 20);
        barn.run(0, NONE, 1, 0);
        ran(barn, 0, "3 0 2 0 0 0 0", "0 0 0 10 2 0 0");
        barn.granary(0, 99, 99, 0);
        barn.run(0, NONE, 1, 0);
        ran(barn, 0, "3 0 2 0 0 0 0", "0 0 0 10 2 0 0");
        ANSWERS.due("nothing spent", barn.spent(), 0);
    }

    private static void boughtBelow() {
        ANSWERS.sentence(29, "while the PRICE is below BUY it buys a sack (that is brought no more) at the PRICE as it was");
        CornBarn barn = withRow("y 1;w 10 1;w 6 1;w 3 1", 3);
        barn.granary(0, 3, 99, 20);
        barn.run(0, NONE, 1, 0);
        ran(barn, 0, "3 0 2 3 1 1 0");
        ANSWERS.due("bought at 0", barn.spent(), 0);
        barn.granary(0, 4, 99, 20);
        barn.run(0, NONE, 1, 0);
        ran(barn, 0, "3 0 1 6 2 2 0");
        ANSWERS.due("bought at 0 and 3", barn.spent(), 3);
        barn.granary(0, 6, 99, 20);
        barn.run(0, NONE, 1, 0);
        ran(barn, 0, "3 0 1 6 2 2 0");
        barn.granary(0, 7, 99, 20);
        barn.run(0, NONE, 1, 0);
        ran(barn, 0, "3 0 0 10 3 3 0");
        ANSWERS.due("bought at 0, 3 and 6", barn.spent(), 9);
        ANSWERS.sentence(29, "it has room");
        for (int room = 0; room <= 3; room++) {
            barn.granary(0, 99, 99, room);
            barn.run(0, NONE, 1, 0);
            ANSWERS.due("room for " + room, Barns.ran(barn, 0, 0, 5), room);
            ANSWERS.due("eaten", Barns.ran(barn, 0, 0, 2), 3 - room);
        }
    }

    private static void somethingBrought() {
        ANSWERS.sentence(29, "and something is brought");
        CornBarn barn = withRow("y 1", 2, 0, 20);
        barn.granary(0, 1, 1, 20);
        ANSWERS.due("run", barn.run(0, NONE, 1, 0), 3);
        ran(barn, 0, "2 0 0 0 0 2 0", "0 0 0 0 0 2 0", "20 0 0 0 0 20 0");
        CornBarn kept = Barns.withRule("y 1;w 9 1", "k:99");
        Barns.rows(kept, 0, 20);
        kept.granary(0, 99, 99, 20);
        kept.run(0, RULE, 2, 10);
        ran(kept, 0, "30 20 0 9 1 10 0");
        kept.run(0, RULE, 2, 0);
        ran(kept, 0, "20 20 0 9 1 0 0");
    }

    private static void soldAbove() {
        ANSWERS.sentence(29, "while the PRICE is above SELL and it has some, it sells one (that is brought besides) at the PRICE "
            + "as it was");
        CornBarn barn = withRow("y 1;w 10 1;w 6 1;w 3 1", 6, 0, 0);
        barn.granary(0, 1, 6, 20);
        barn.run(0, NONE, 1, 0);
        ran(barn, 0, "6 0 2 3 1 4 0", "0 0 1 6 2 3 0", "0 0 1 6 2 2 0");
        ANSWERS.due("four at 0, one at 10 twice", barn.spent(), -20);
        barn.granary(0, 1, 5, 20);
        barn.run(0, NONE, 1, 0);
        ran(barn, 0, "6 0 2 3 1 4 0", "0 0 2 3 1 2 0", "0 0 2 3 1 0 0");
        ANSWERS.due("at 10 and 6 twice", barn.spent(), -32);
        barn.granary(0, 1, 10, 20);
        barn.run(0, NONE, 1, 0);
        ran(barn, 0, "6 0 2 3 1 4 0", "0 0 0 10 3 4 0", "0 0 0 10 3 4 0");
        barn.granary(0, 1, 2, 1);
        barn.run(0, NONE, 1, 0);
        ran(barn, 0, "6 0 3 0 0 1 0", "0 0 1 6 2 0 0", "0 0 0 10 3 0 0");
        ANSWERS.due("it has some: one at 10", barn.spent(), -10);
        CornBarn dear = withRow("y 1;w 99 2", 3, 0);
        dear.granary(0, 1, 99, 20);
        dear.run(0, NONE, 1, 0);
        ran(dear, 0, "3 0 1 99 1 2 0", "0 0 0 99 2 2 0");
    }

    private static void notBothInASeason() {
        ANSWERS.sentence(29, "if it bought none");
        CornBarn barn = withRow("y 1;w 9 1;w 3 1", 1, 0, 1);
        barn.granary(0, 5, 5, 20);
        barn.run(0, NONE, 1, 0);
        // Bought at 3 it would be sold at 9 at once.
        ran(barn, 0, "1 0 0 9 2 1 0", "0 0 1 3 1 0 0", "1 0 0 9 2 1 0");
        ANSWERS.due("3 paid, 9 got, 3 paid", barn.spent(), -3);
    }

    private static void nothingAtTheBeginning() {
        ANSWERS.sentence(30, "It has nothing at the RUN's beginning");
        CornBarn barn = withRow("y 1;w 9 1", 5);
        barn.granary(0, 1, 99, 20);
        for (int i = 0; i < 3; i++) {
            barn.run(0, NONE, 1, 0);
            ran(barn, 0, "5 0 0 9 1 5 0");
            ANSWERS.due("spent", barn.spent(), 0);
        }
        Barns.tellLand(barn, "y 1;w 9 1");
        barn.run(1, NONE, 1, 0);
        ran(barn, 0, "5 0 1 0 0 0 0");
    }

    // Two towns

    private static CornBarn twoTowns(String one, String other) {
        return Barns.withLands(one, other);
    }

    private static void upToTheShorter() {
        ANSWERS.sentence(31, "by ROW 0 and ROW 1 (up to the shorter one's end)");
        int[][] lengths = {{0, 0}, {0, 3}, {3, 0}, {2, 3}, {3, 2}, {3, 3}, {40, 39}, {39, 40}, {40, 40}};
        for (int[] length : lengths) {
            CornBarn barn = twoTowns("y 1;w 9 1", "y 1;w 8 1");
            for (int row = 0; row < 2; row++) {
                for (int i = 0; i < length[row]; i++) {
                    barn.row(row, row);
                }
            }
            int shorter = Math.min(length[0], length[1]);
            ANSWERS.due("towns", barn.towns(0, 1, NONE, 1, 0, 0, 99), shorter);
            ANSWERS.due("the last of town 0", Barns.ran(barn, 0, shorter - 1, 0), shorter == 0 ? Barns.THROWN : 0);
            ANSWERS.due("the last of town 1", Barns.ran(barn, 1, shorter - 1, 0), shorter == 0 ? Barns.THROWN : 1);
            ANSWERS.due("behind it", Barns.ran(barn, 0, shorter, 0), Barns.THROWN);
            ANSWERS.due("behind it", Barns.ran(barn, 1, shorter, 0), Barns.THROWN);
        }
    }

    private static void byMoreThanTheRoad() {
        ANSWERS.sentence(31, "above what the PRICE in that one were with a sack fewer there, by more than the ROAD's cost (0 .. 99)");
        String eaters = "y 1;w 10 1;w 6 1;w 3 1";
        String others = "y 1;w 12 1;w 8 1;w 1 1";
        int[][] roads = {{0, 2}, {1, 2}, {2, 1}, {8, 1}, {9, 0}, {99, 0}};
        for (int[] road : roads) {
            for (int from = 0; from < 2; from++) {
                // Three sacks in one town, none in the other: 12 for 3, then 8 for 6.
                CornBarn barn = from == 0 ? twoTowns(eaters, others) : twoTowns(others, eaters);
                barn.row(from, 3);
                barn.row(1 - from, 0);
                barn.towns(0, 1, NONE, 1, 0, 0, road[0]);
                ANSWERS.due("away by a road of " + road[0], Barns.ran(barn, from, 0, 6), road[1]);
                ANSWERS.due("to it by a road of " + road[0], Barns.ran(barn, 1 - from, 0, 6), -road[1]);
                ANSWERS.due("eaten here", Barns.ran(barn, from, 0, 2), 3 - road[1]);
                ANSWERS.due("eaten there", Barns.ran(barn, 1 - from, 0, 2), road[1]);
                ANSWERS.due("the amounts stay", Barns.ran(barn, from, 0, 0), 3);
            }
        }
        for (int road = 98; road <= 99; road++) {
            CornBarn dear = twoTowns("y 1", "y 1;w 99 2");
            Barns.rows(dear, 0, 5);
            Barns.rows(dear, 1, 0);
            dear.towns(0, 1, NONE, 1, 0, 0, road);
            ran(dear, 0, road == 98 ? "5 0 0 0 0 0 2" : "5 0 0 0 0 0 0");
            ran(dear, 1, road == 98 ? "0 0 2 0 0 0 -2" : "0 0 0 99 2 0 0");
        }
    }

    private static void asLongAsSomethingIsBrought() {
        ANSWERS.sentence(31, "as long as something is brought in one TOWN");
        CornBarn barn = twoTowns("y 1;w 1 1", "y 1;w 99 9");
        Barns.rows(barn, 0, 2, 0);
        Barns.rows(barn, 1, 0, 0);
        ANSWERS.due("towns", barn.towns(0, 1, NONE, 1, 0, 0, 0), 2);
        ran(barn, 0, "2 0 0 1 1 0 2", "0 0 0 1 1 0 0");
        ran(barn, 1, "0 0 2 99 7 0 -2", "0 0 0 99 9 0 0");
        CornBarn kept = twoTowns("y 1;w 1 1", "y 1;w 99 9");
        kept.by(0, Barns.tellRule(kept, "k:99"));
        Barns.rows(kept, 0, 2);
        Barns.rows(kept, 1, 0);
        kept.towns(0, 1, RULE, 2, 0, 0, 0);
        ran(kept, 0, "2 2 0 1 1 0 0");
        ran(kept, 1, "0 0 0 99 9 0 0");
    }

    private static void alikeTowns() {
        ANSWERS.sentence(31, "above: as much is not enough");
        CornBarn barn = twoTowns("y 1;w 5 2", "y 1;w 5 2");
        Barns.rows(barn, 0, 1, 2, 3, 4);
        Barns.rows(barn, 1, 1, 0, 0, 0);
        barn.towns(0, 1, NONE, 1, 0, 0, 0);
        ran(barn, 0, "1 0 1 5 1 0 0", "2 0 2 0 0 0 0", "3 0 2 0 0 0 1", "4 0 2 0 0 0 2");
        ran(barn, 1, "1 0 1 5 1 0 0", "0 0 0 5 2 0 0", "0 0 1 5 1 0 -1", "0 0 2 0 0 0 -2");
    }

    private static void eachTownsOwn() {
        ANSWERS.sentence(31, "two LANDS with as many SEASONS a year, no GRANARY");
        CornBarn barn = Barns.withLands("y 2;w 9 1;r 3", "y 2;w 9 1;m 2");
        barn.by(0, Barns.tellRule(barn, "k:s=0?99"));
        barn.by(1, Barns.tellRule(barn, "k:s=1?99"));
        barn.granary(0, 99, 99, 20);
        barn.granary(1, 99, 99, 20);
        Barns.rows(barn, 0, 20, 20, 0);
        Barns.rows(barn, 1, 1, 20, 0);
        ANSWERS.due("towns", barn.towns(0, 1, RULE, 2, 20, 0, 99), 3);
        ran(barn, 0, "40 3 1 0 0 0 0", "23 0 1 0 0 0 0", "0 0 0 9 1 0 0");
        ran(barn, 1, "1 0 1 0 0 0 0", "20 20 0 9 1 0 0", "10 0 1 0 0 0 0");
        ANSWERS.due("towns", barn.towns(0, 1, RULE, 2, 0, 20, 99), 3);
        ANSWERS.due("its own before", Barns.ran(barn, 0, 0, 0), 20);
        ANSWERS.due("the other's before", Barns.ran(barn, 1, 0, 0), 21);
        ANSWERS.sentence(33, "0 with TOWNS");
        ANSWERS.due("spent", barn.spent(), 0);
        barn.granary(0, 99, 99, 20);
        Barns.tellLand(barn, "y 1;w 9 1;w 8 1");
        barn.granary(2, 99, 99, 20);
        barn.clear(0);
        barn.row(0, 1);
        barn.run(2, NONE, 1, 0);
        ANSWERS.due("spent by a run", barn.spent(), 8);
        barn.towns(0, 1, NONE, 1, 0, 0, 0);
        ANSWERS.due("spent by towns behind it", barn.spent(), 0);
    }

    // What ran

    private static void latestRun() {
        ANSWERS.sentence(32, "of TOWN 0 or 1 (a RUN: 0); NoSuchElementException: no such ones");
        CornBarn barn = twoTowns("y 1;w 9 1", "y 1;w 8 1");
        Barns.rows(barn, 0, 1, 2);
        Barns.rows(barn, 1, 3);
        for (int town = -1; town <= 2; town++) {
            ANSWERS.due("nothing ran yet", Barns.ran(barn, town, 0, 0), Barns.THROWN);
        }
        barn.run(0, NONE, 1, 0);
        ANSWERS.due("a run has town 0", Barns.ran(barn, 0, 1, 0), 2);
        ANSWERS.due("a run has no town 1", Barns.ran(barn, 1, 0, 0), Barns.THROWN);
        barn.towns(0, 1, NONE, 1, 0, 0, 99);
        ANSWERS.due("towns have town 1", Barns.ran(barn, 1, 0, 0), 3);
        ANSWERS.due("towns have no town 2", Barns.ran(barn, 2, 0, 0), Barns.THROWN);
        ANSWERS.due("a season as the shorter row", Barns.ran(barn, 0, 1, 0), Barns.THROWN);
        barn.run(1, NONE, 1, 0);
        ANSWERS.due("a run again has no town 1", Barns.ran(barn, 1, 0, 0), Barns.THROWN);
        for (int off : new int[] {-1, 7, Barns.LOW, Barns.HIGH}) {
            ANSWERS.due("what " + off, Barns.ran(barn, 0, 0, off), Barns.THROWN);
            ANSWERS.due("season " + off, Barns.ran(barn, 0, off, 0), Barns.THROWN);
            ANSWERS.due("town " + off, Barns.ran(barn, off, 0, 0), Barns.THROWN);
        }
        barn.row(0, 4);
        barn.law(1, 0);
        ANSWERS.due("a row told on is not gone through", Barns.ran(barn, 0, 2, 0), Barns.THROWN);
        barn.clear(0);
        barn.run(1, NONE, 1, 0);
        ANSWERS.due("a run of no season is the latest", Barns.ran(barn, 0, 0, 0), Barns.THROWN);
    }

    private static void refusedRuns() {
        ANSWERS.sentence(32, "the latest RUN: a refused one is none");
        CornBarn barn = twoTowns("y 1;w 9 1", "y 1;w 8 1");
        Barns.rows(barn, 0, 2);
        Barns.rows(barn, 1, 3);
        barn.granary(0, 1, 9, 1);
        barn.run(0, NONE, 1, 0);
        String seen = Barns.ranAll(barn, 0, 0);
        ANSWERS.same("the run", seen, "2 0 1 0 0 1 0");
        barn.run(0, 5, 1, 0);
        barn.towns(0, 1, ONE, 1, 0, 0, 0);
        barn.towns(0, 0, NONE, 1, 0, 0, 0);
        barn.towns(0, 1, NONE, 1, 0, 21, 0);
        barn.towns(0, 1, NONE, 1, 0, 0, 100);
        ANSWERS.same("behind refused ones", Barns.ranAll(barn, 0, 0), seen);
        ANSWERS.due("no town 1", Barns.ran(barn, 1, 0, 0), Barns.THROWN);
    }

    private static void blameLeavesTheRun() {
        ANSWERS.sentence(34, "the latest RUN stays; HIDDEN: no such ones");
        CornBarn barn = withRow("y 2;w 10 2;w 4 1;h 0 4 1", 4, 0);
        ANSWERS.due("two eat, and two; by NONE three, and none", barn.blame(0, ALL, 2, 0), (1 + 1) - (0 + 3));
        barn.granary(0, 1, 9, 1);
        barn.run(0, NONE, 1, 1);
        String first = Barns.ranAll(barn, 0, 0);
        int spent = barn.spent();
        ANSWERS.due("by NONE one more, that the granary bought and sells", barn.blame(0, ALL, 2, 0), (1 + 1) - (0 + 2));
        ANSWERS.due("blame by nobody", barn.blame(0, NONE, 2, 0), 0);
        ANSWERS.due("hidden", barn.blame(0, ALL, 2, 21), -100000);
        ANSWERS.same("the run", Barns.ranAll(barn, 0, 0), first);
        ANSWERS.due("two seasons", Barns.ran(barn, 0, 1, 0) != Barns.THROWN, true);
        ANSWERS.due("spent", barn.spent(), spent);
        ANSWERS.sentence(34, "less those of the RUN with NONE");
        CornBarn empty = Barns.withLands("y 1;w 9 9");
        ANSWERS.due("of no season", empty.blame(0, ALL, 12, 20), 0);
        CornBarn all = Barns.withRule("y 1;w 9 9", "k:99");
        for (int i = 0; i < LONGEST; i++) {
            all.row(0, i == 0 ? 20 : 0);
        }
        ANSWERS.due("nobody eats for forty seasons but by NONE nine", all.blame(0, RULE, 2, 0), 9);
        CornBarn less = Barns.withRule("y 1;w 9 9", "k:a-1");
        Barns.rows(less, 0, 18, 0, 0, 0, 0, 0, 0, 0, 0, 0, 0, 0, 0, 0, 0, 0, 0, 0);
        ANSWERS.due("one each time, less than 0", less.blame(0, RULE, 2, 0), 9 - 18);
    }

    private static void counts() {
        ANSWERS.sentence(35, "0 LANDS, 1 RULES, 2, 3 HARVESTS in ROW 0, 1, 4 bytes of the TAPE. NONE for others");
        CornBarn barn = new CornBarn();
        for (int i = 0; i < 7; i++) {
            Barns.tellLand(barn, "y 1");
            Barns.tellRule(barn, "k:1");
        }
        for (int i = 0; i < 41; i++) {
            barn.row(0, 1);
            barn.row(1, 1);
        }
        barn.end(0);
        for (int i = 0; i < 13; i++) {
            barn.feed(-1, -1, -1, -1, -1);
        }
        int[] due = {6, 6, 40, 40, 240};
        for (int what = 0; what < due.length; what++) {
            ANSWERS.due("the most of " + what, barn.count(what), due[what]);
        }
        ANSWERS.due("5", barn.count(5), -1);
        ANSWERS.due("-1", barn.count(-1), -1);
    }

    public static void main(String[] args) {
        afterNoSeason();
        amountAtMost();
        priceOrMore();
        nothingKept();
        roundTheYear();
        fortyInARow();
        clearedRows();
        runThroughTheRow();
        leftFromBefore();
        leftAndHarvest();
        roundAndRound();
        runOfOne();
        granaryAtFirst();
        boughtBelow();
        somethingBrought();
        soldAbove();
        notBothInASeason();
        nothingAtTheBeginning();
        upToTheShorter();
        byMoreThanTheRoad();
        asLongAsSomethingIsBrought();
        alikeTowns();
        eachTownsOwn();
        latestRun();
        refusedRuns();
        blameLeavesTheRun();
        counts();
        ANSWERS.end();
    }
}
