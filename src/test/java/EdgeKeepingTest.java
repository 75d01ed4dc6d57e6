/**
 * The edges of eating and keeping: eaters, law and room, keepers of each sort, what hangs on them. One method for each
 * sentence of the document that names such an edge; the answers are worked out by hand.
 */
public final class EdgeKeepingTest {
    private static final int NONE = 0;
    private static final int ALL = 1;
    private static final int GOOD = 2;
    private static final int ONE = 3;
    private static final int RULE = 4;
    private static final long TWELVE_TO_THE_11TH = 743008370688L;

    // 27 eaters, who pay 99, 98 and 97, nine each; a harvest in season 0 alone.
    private static final String HUNGRY = "y 2;w 99 9;w 98 9;w 97 9;h 0 20 1";
    // Eaters who pay 10, 8, 6, 4, 2 and a year of one season without a harvest.
    private static final String STEPS = "y 1;w 10 1;w 8 1;w 6 1;w 4 1;w 2 1";

    private static final Answers ANSWERS = new Answers();

    private static void dueAll(String call, int[] got, int... want) {
        for (int i = 0; i < want.length; i++) {
            ANSWERS.due(call + " [" + i + "]", got[i], want[i]);
        }
    }

    private static int[] eaten(CornBarn barn, int e) {
        return new int[] {barn.eaten(0, e, 0), barn.eaten(0, e, 1), barn.eaten(0, e, 2)};
    }

    // Eaters, mice, law

    private static void moreSacksThanEaters() {
        ANSWERS.sentence(9, "with e sacks the first e of these eat (all, if there are no more); the PRICE is what the first "
            + "of the others would pay, 0 if there is none");
        CornBarn barn = Barns.withLands("y 1;w 5 2;w 9 1");
        dueAll("nothing eaten", eaten(barn, 0), 0, 9, 3);
        dueAll("one", eaten(barn, 1), 9, 5, 2);
        dueAll("all but one", eaten(barn, 2), 14, 5, 1);
        dueAll("all", eaten(barn, 3), 19, 0, 0);
        dueAll("one more than all", eaten(barn, 4), 19, 0, 0);
        dueAll("200", eaten(barn, 200), 19, 0, 0);
        CornBarn nobody = Barns.withLands("y 1");
        dueAll("nobody, nothing", eaten(nobody, 0), 0, 0, 0);
        dueAll("nobody, 200", eaten(nobody, 200), 0, 0, 0);
        CornBarn crowd = Barns.withLands("y 1;w 1 1" + ";w 99 9".repeat(19));
        dueAll("172 of 172", eaten(crowd, 172), 171 * 99 + 1, 0, 0);
        dueAll("171 of 172", eaten(crowd, 171), 171 * 99, 1, 1);
        dueAll("170 of 172", eaten(crowd, 170), 170 * 99, 99, 2);
    }

    private static void asManyAreEaten() {
        ANSWERS.sentence(15, "all, if there are no more; as many are EATEN");
        CornBarn barn = Barns.withLands("y 1;w 5 2;w 9 1");
        for (int sort : new int[] {NONE, ALL, GOOD, RULE}) {
            ANSWERS.due("of 2, by " + sort, barn.sold(0, sort, 1, 0, 2), 2);
            ANSWERS.due("of 3, by " + sort, barn.sold(0, sort, 1, 0, 3), 3);
            ANSWERS.due("of 4, by " + sort, barn.sold(0, sort, 1, 0, 4), 3);
            ANSWERS.due("of 40, by " + sort, barn.sold(0, sort, 1, 0, 40), 3);
            ANSWERS.due("price of 2, by " + sort, barn.price(0, sort, 1, 0, 2), 5);
            ANSWERS.due("price of 3, by " + sort, barn.price(0, sort, 1, 0, 3), 0);
        }
        CornBarn keeping = Barns.withRule("y 2;w 9 2;w 5 1", "k:99");
        ANSWERS.due("all is kept", keeping.sold(0, RULE, 2, 0, 20), 0);
        ANSWERS.due("all but one", keeping.sold(0, RULE, 2, 0, 21), 1);
        ANSWERS.due("all but three", keeping.sold(0, RULE, 2, 0, 23), 3);
        ANSWERS.due("all but four", keeping.sold(0, RULE, 2, 0, 24), 3);
        ANSWERS.due("price if all is kept", keeping.price(0, RULE, 2, 0, 20), 9);
        ANSWERS.due("price if all but two are", keeping.price(0, RULE, 2, 0, 22), 5);
        ANSWERS.due("price if all but three are", keeping.price(0, RULE, 2, 0, 23), 0);
    }

    private static void goodsOfAll() {
        ANSWERS.sentence(7, "1 EATERS, 7 GOODS of all");
        CornBarn barn = Barns.withLands("y 1", "y 1" + ";w 99 9".repeat(20), "y 1;w 1 1");
        ANSWERS.due("no eaters", barn.told(0, 1), 0);
        ANSWERS.due("no goods", barn.told(0, 7), 0);
        ANSWERS.due("the most eaters", barn.told(1, 1), 180);
        ANSWERS.due("the most goods", barn.told(1, 7), 17820);
        ANSWERS.due("one eater", barn.told(2, 1), 1);
        ANSWERS.due("goods of one", barn.told(2, 7), 1);
        ANSWERS.sentence(7, "6 its RULE (NONE)");
        ANSWERS.due("no rule", barn.told(0, 6), -1);
        Barns.tellRule(barn, "k:1");
        barn.by(0, 0);
        ANSWERS.due("rule 0", barn.told(0, 6), 0);
        ANSWERS.due("of another land", barn.told(1, 6), -1);
        barn.by(0, -1);
        ANSWERS.due("none again", barn.told(0, 6), -1);
    }

    private static void miceCut() {
        ANSWERS.sentence(10, "Of k sacks KEPT k less k by M (cut) are LEFT");
        CornBarn barn = Barns.withLands("y 1", "y 1;m 2", "y 1;m 20", "y 1;m 3;r 1");
        int[][] due = {{0, 0, 0}, {0, 1, 1}, {0, 19, 19}, {0, 20, 20}, {1, 0, 0}, {1, 1, 1}, {1, 2, 1}, {1, 3, 2},
            {1, 19, 10}, {1, 20, 10}, {2, 1, 1}, {2, 19, 19}, {2, 20, 19}, {3, 2, 2}, {3, 3, 2}, {3, 20, 14}};
        for (int[] row : due) {
            ANSWERS.due("left(" + row[0] + ", " + row[1] + ")", barn.left(row[0], row[1]), row[2]);
        }
    }

    private static void lawAtFirst() {
        ANSWERS.sentence(11, "no more than so much is kept (0 .. 20; 20 at first)");
        CornBarn barn = Barns.withRule(HUNGRY, "k:99");
        Barns.tellLand(barn, HUNGRY);
        ANSWERS.due("at first", barn.told(0, 5), 20);
        ANSWERS.due("kept at first", barn.keep(0, RULE, 2, 0, 40), 20);
        for (int law : new int[] {0, 1, 19, 20}) {
            ANSWERS.due("law(0, " + law + ")", barn.law(0, law), true);
            ANSWERS.due("told", barn.told(0, 5), law);
            ANSWERS.due("kept", barn.keep(0, RULE, 2, 0, 40), law);
            ANSWERS.due("the other land's", barn.told(1, 5), 20);
        }
    }

    private static void amountRoomAndLaw() {
        ANSWERS.sentence(14, "KEPT is no more than the AMOUNT, ROOM, LAW");
        int[] wished = {0, 17, 18, 18, 20};
        for (int sort = ALL; sort <= RULE; sort++) {
            CornBarn barn = Barns.withRule(HUNGRY, "k:99");
            ANSWERS.due("by " + sort + " as they like", barn.keep(0, sort, 2, 0, 40), wished[sort]);
            barn.law(0, wished[sort]);
            ANSWERS.due("by " + sort + " at the law", barn.keep(0, sort, 2, 0, 40), wished[sort]);
            barn.law(0, wished[sort] - 1);
            ANSWERS.due("by " + sort + " with a law of one less", barn.keep(0, sort, 2, 0, 40), wished[sort] - 1);
            barn.law(0, 0);
            ANSWERS.due("by " + sort + " with a law of 0", barn.keep(0, sort, 2, 0, 40), 0);
            for (int room : new int[] {0, 1, 5}) {
                CornBarn small = Barns.withRule(HUNGRY + ";r " + room, "k:99");
                ANSWERS.due("by " + sort + " with room for " + room, small.keep(0, sort, 2, 0, 40), room);
                small.law(0, 3);
                ANSWERS.due("the less of room and law", small.keep(0, sort, 2, 0, 40), Math.min(room, 3));
            }
        }
        CornBarn barn = Barns.withRule(HUNGRY, "k:99");
        for (int amount = 0; amount <= 40; amount++) {
            ANSWERS.due("of " + amount, barn.keep(0, RULE, 2, 0, amount), Math.min(amount, 20));
        }
    }

    // Keepers

    private static void inTheLastSeasonNothing() {
        ANSWERS.sentence(14, "KEEPERS see n SEASONS (1 .. 12, this one too) to go; in the last one nothing is KEPT");
        CornBarn barn = Barns.withRule(HUNGRY, "k:99");
        for (int sort = NONE; sort <= RULE; sort++) {
            for (int amount : new int[] {0, 1, 20, 40}) {
                ANSWERS.due("n 1 by " + sort, barn.keep(0, sort, 1, 0, amount), 0);
                ANSWERS.due("n 1 in season 1 by " + sort, barn.keep(0, sort, 1, 1, amount), 0);
            }
            ANSWERS.due("n 2 by " + sort, barn.keep(0, sort, 2, 0, 40) > 0, sort != NONE);
            ANSWERS.due("n 12 by " + sort, barn.keep(0, sort, 12, 0, 40) > 0, sort != NONE);
        }
    }

    private static void noneKeepNothing() {
        ANSWERS.sentence(14, "NONE: nothing is KEPT");
        CornBarn barn = Barns.withRule(HUNGRY, "k:99");
        for (int n = 1; n <= 12; n++) {
            ANSWERS.due("with " + n + " to go", barn.keep(0, NONE, n, 0, 40), 0);
        }
    }

    private static int allKeep(String land, int n, int amount) {
        return Barns.withLands(land).keep(0, ALL, n, 0, amount);
    }

    private static void allKeepForMore() {
        ANSWERS.sentence(14, "one more is KEPT as long as what it brings is more than the PRICE now, less C");
        // The price now of two is 4; one kept brings 10 less C.
        String land = "y 2;w 10 2;w 4 1;h 0 4 1;c ";
        ANSWERS.due("10 less 5 is more than 4", allKeep(land + 5, 2, 2), 1);
        ANSWERS.due("10 less 6 is not", allKeep(land + 6, 2, 2), 0);
        ANSWERS.due("10 less 7 is not", allKeep(land + 7, 2, 2), 0);
        ANSWERS.due("10 less 9 is more than 0", allKeep(land + 9, 2, 40), 1);
        ANSWERS.due("10 less 10 is not", allKeep(land + 10, 2, 40), 0);
        ANSWERS.due("nobody pays", allKeep("y 1", 12, 40), 0);
        ANSWERS.due("nothing there", allKeep(land + 0, 2, 0), 0);
    }

    private static void allByTheMean() {
        ANSWERS.sentence(14, "the mean of the next SEASON's PRICES");
        // One kept meets none or one: 10 or 5, 7 and a half by the mean; the price now of two is 5.
        String land = "y 2;w 10 2;w 5 1;h 1 0 1;h 1 1 1;c ";
        ANSWERS.due("a half above 5 is more", allKeep(land + 2, 2, 2), 1);
        ANSWERS.due("a half below 5 is not", allKeep(land + 3, 2, 2), 0);
        // By weights 3 and 1: 8 and three quarters.
        String heavy = "y 2;w 10 2;w 5 1;h 1 0 3;h 1 1 1;c ";
        ANSWERS.due("three quarters above 5", allKeep(heavy + 3, 2, 2), 1);
        ANSWERS.due("a quarter below 5", allKeep(heavy + 4, 2, 2), 0);
        // By weights 1 and 3: 6 and a quarter.
        String light = "y 2;w 10 2;w 5 1;h 1 0 1;h 1 1 3;c ";
        ANSWERS.due("a quarter above 5", allKeep(light + 1, 2, 2), 1);
        ANSWERS.due("three quarters below 5", allKeep(light + 2, 2, 2), 0);
    }

    private static void allWithMice() {
        ANSWERS.sentence(14, "of M parts M less 1 (all of it with M 0)");
        ANSWERS.due("a half of 10 is more than 4", allKeep("y 2;w 10 2;w 4 1;m 2", 2, 2), 1);
        ANSWERS.due("a half of 10 is not more than 5", allKeep("y 2;w 10 2;w 5 1;m 2", 2, 2), 0);
        ANSWERS.due("all of 10 is more than 9", allKeep("y 2;w 10 2;w 9 1;m 0", 2, 2), 1);
        ANSWERS.due("9 and a half is more than 9", allKeep("y 2;w 10 2;w 9 1;m 20", 2, 2), 1);
        ANSWERS.due("8 and a half is not", allKeep("y 2;w 10 2;w 9 1;m 20;c 1", 2, 2), 0);
        ANSWERS.due("a half of 9 is more than 4", allKeep("y 2;w 9 2;w 4 1;m 2", 2, 2), 1);
        // A second sack kept is the one that mice take: one is left, so that the price then is 10 still.
        ANSWERS.due("it KEPT, too: left of two is one", allKeep("y 2;w 10 2;w 4 1;m 2", 2, 4), 2);
    }

    private static void allKeepingThere() {
        ANSWERS.sentence(14, "one SEASON fewer to go, ALL keeping there");
        int[][] due = {{1, 3, 0}, {2, 1, 0}, {2, 2, 1}, {2, 3, 1}, {2, 4, 2}, {3, 3, 2}, {3, 4, 2}, {3, 1, 0}};
        for (int[] row : due) {
            ANSWERS.due("n " + row[0] + " of " + row[1], allKeep(STEPS, row[0], row[1]), row[2]);
        }
    }

    private static void goodTheFewest() {
        ANSWERS.sentence(14, "GOOD: as many as are best; of several the fewest");
        CornBarn barn = Barns.withLands(STEPS, "y 2;w 10 2;h 0 4 1", "y 2;w 10 2;h 0 4 1;c 10", "y 2;w 10 2;h 0 4 1;c 9",
            "y 1", "y 2;w 10 2;w 4 1;m 2");
        ANSWERS.due("one now or then is the same", barn.keep(0, GOOD, 2, 0, 1), 0);
        ANSWERS.due("8 then for 8 now is the same", barn.keep(0, GOOD, 2, 0, 2), 1);
        ANSWERS.due("of 3", barn.keep(0, GOOD, 2, 0, 3), 1);
        ANSWERS.due("of 4", barn.keep(0, GOOD, 2, 0, 4), 2);
        ANSWERS.due("no more than can be eaten then", barn.keep(1, GOOD, 2, 0, 40), 2);
        ANSWERS.due("at a cost of all that it brings", barn.keep(2, GOOD, 2, 0, 40), 0);
        ANSWERS.due("at a cost of one less", barn.keep(3, GOOD, 2, 0, 40), 2);
        ANSWERS.due("nobody eats", barn.keep(4, GOOD, 12, 0, 40), 0);
        ANSWERS.due("five kept leave three, who eat all", barn.keep(5, GOOD, 2, 0, 40), 5);
    }

    private static void oneSellsWithinWhatIsNotKept() {
        ANSWERS.sentence(15, "sells some (SOLD), 0 .. what is not KEPT; (More than there are EATERS are not SOLD.)");
        CornBarn barn = Barns.withLands("y 1;w 7 9;w 7 1", "y 1", "y 1;w 7 2");
        ANSWERS.due("nothing there", barn.sold(0, ONE, 1, 0, 0), 0);
        ANSWERS.due("one there", barn.sold(0, ONE, 1, 0, 1), 1);
        ANSWERS.due("nine there", barn.sold(0, ONE, 1, 0, 9), 9);
        ANSWERS.due("as many as eaters", barn.sold(0, ONE, 1, 0, 10), 10);
        ANSWERS.due("more than eaters", barn.sold(0, ONE, 1, 0, 11), 10);
        ANSWERS.due("many more", barn.sold(0, ONE, 1, 0, 40), 10);
        ANSWERS.due("nobody buys", barn.sold(1, ONE, 1, 0, 40), 0);
        ANSWERS.due("two of four now", barn.sold(2, ONE, 2, 0, 4), 2);
        ANSWERS.due("two of four kept", barn.keep(2, ONE, 2, 0, 4), 2);
        ANSWERS.due("two of three now", barn.sold(2, ONE, 2, 0, 3), 2);
    }

    private static void oneTheFewest() {
        ANSWERS.sentence(14, "of several the fewest KEPT");
        CornBarn barn = Barns.withLands("y 1;w 7 2", "y 1;w 10 1;w 5 1", "y 1;w 6 1;w 3 1;w 2 1", "y 2;w 10 1;c 10",
            "y 2;w 10 1;c 9");
        ANSWERS.due("one now or then", barn.keep(0, ONE, 2, 0, 1), 0);
        ANSWERS.due("two now, or one and one", barn.keep(0, ONE, 2, 0, 2), 0);
        ANSWERS.due("at a cost of all that it brings", barn.keep(3, ONE, 2, 0, 2), 0);
        ANSWERS.due("at a cost of one less", barn.keep(4, ONE, 2, 0, 2), 1);
        ANSWERS.sentence(15, "then the fewest SOLD");
        ANSWERS.due("one at 10 is as much as two at 5", barn.sold(1, ONE, 1, 0, 2), 1);
        ANSWERS.due("one at 6, two at 3, three at 2", barn.sold(2, ONE, 1, 0, 40), 1);
    }

    private static void onesPrice() {
        ANSWERS.sentence(16, "Its PRICE is what that EATER would pay, 100 if nothing is SOLD");
        CornBarn barn = Barns.withLands("y 1;w 10 1;w 6 1;w 3 1", "y 1", "y 1;w 99 1");
        ANSWERS.due("nothing there", barn.price(0, ONE, 1, 0, 0), 100);
        ANSWERS.due("one there", barn.price(0, ONE, 1, 0, 1), 10);
        ANSWERS.due("two there", barn.price(0, ONE, 1, 0, 2), 6);
        ANSWERS.due("three there, two sold", barn.price(0, ONE, 1, 0, 3), 6);
        ANSWERS.due("nobody buys", barn.price(1, ONE, 1, 0, 40), 100);
        ANSWERS.due("the dearest", barn.price(2, ONE, 1, 0, 40), 99);
        ANSWERS.due("of others: nobody is hungry", barn.price(2, NONE, 1, 0, 1), 0);
        ANSWERS.due("of others: nobody there", barn.price(1, NONE, 1, 0, 0), 0);
    }

    private static void ruleWithinBounds() {
        ANSWERS.sentence(14, "a RULE: WORTH, 0 at least, as much as may be KEPT at most");
        String[] rules = {"k:0-1", "k:0-9999*9999", "k:0", "k:1", "k:19", "k:20", "k:21", "k:9999*9999"};
        int[] due = {0, 0, 0, 1, 19, 20, 20, 20};
        for (int i = 0; i < rules.length; i++) {
            CornBarn barn = Barns.withRule(HUNGRY, rules[i]);
            ANSWERS.due(rules[i] + " of 40", barn.keep(0, RULE, 2, 0, 40), due[i]);
            ANSWERS.due(rules[i] + " of 1", barn.keep(0, RULE, 2, 0, 1), Math.min(due[i], 1));
            ANSWERS.due(rules[i] + " of 0", barn.keep(0, RULE, 2, 0, 0), 0);
        }
        ANSWERS.sentence(12, "a RULE (the LAND's; none: as NONE)");
        CornBarn barn = Barns.withLands(HUNGRY, HUNGRY);
        Barns.tellRule(barn, "k:5");
        for (int land = 0; land < 2; land++) {
            ANSWERS.due("none yet", barn.keep(land, RULE, 2, 0, 40), 0);
            ANSWERS.due("all is eaten", barn.sold(land, RULE, 2, 0, 40), 27);
        }
        ANSWERS.due("by(0, 0)", barn.by(0, 0), true);
        ANSWERS.due("kept", barn.keep(0, RULE, 2, 0, 40), 5);
        ANSWERS.due("not in the other", barn.keep(1, RULE, 2, 0, 40), 0);
        ANSWERS.due("by(0, NONE)", barn.by(0, -1), true);
        ANSWERS.due("none again", barn.keep(0, RULE, 2, 0, 40), 0);
    }

    private static void lettersOfALand() {
        ANSWERS.sentence(13, "a the AMOUNT, s the SEASON, n SEASONS to go, p the PRICE if all is EATEN, r how much may be KEPT");
        // In season 3 with 12 to go 40 sacks stand there: all eat, price 0; 20 may be kept.
        String land = "y 4;w 50 3;w 7 3";
        ANSWERS.due("at the highest", Barns.withRule(land, "k:a=40&s=3&n=12&p=0&r=20?1").keep(0, RULE, 12, 3, 40), 1);
        ANSWERS.due("of one", Barns.withRule(land, "k:a=1&s=0&n=2&p=50&r=1?1").keep(0, RULE, 2, 0, 1), 1);
        ANSWERS.due("all but one eat", Barns.withRule(land, "k:a=5&p=7&r=5?1").keep(0, RULE, 2, 0, 5), 1);
        ANSWERS.due("all eat", Barns.withRule(land, "k:a=6&p=0&r=6?1").keep(0, RULE, 2, 0, 6), 1);
        ANSWERS.due("room", Barns.withRule(land + ";r 4", "k:r=4?1").keep(0, RULE, 2, 0, 5), 1);
        CornBarn barn = Barns.withRule(land + ";r 4", "k:r=3?1");
        barn.law(0, 3);
        ANSWERS.due("law", barn.keep(0, RULE, 2, 0, 5), 1);
    }

    // What hangs on keepers

    private static void belowOfOne() {
        ANSWERS.sentence(17, "1 with n 1, else the sum of the next SEASON's weights times BELOW there");
        CornBarn barn = Barns.withLands("y 1;h 0 1 9;h 0 2 3", "y 2;h 0 1 9;h 0 2 3", "y 1", "y 4;h 3 1 2;h 0 1 5");
        ANSWERS.due("n 1", barn.below(0, 1, 0), 1);
        ANSWERS.due("n 2", barn.below(0, 2, 0), 12);
        ANSWERS.due("n 12, the most", barn.below(0, 12, 0), TWELVE_TO_THE_11TH);
        ANSWERS.due("n 2, none told for the next", barn.below(1, 2, 0), 1);
        ANSWERS.due("n 2, round to season 0", barn.below(1, 2, 1), 12);
        ANSWERS.due("n 12 from season 0", barn.below(1, 12, 0), 248832);
        ANSWERS.due("n 12 from season 1", barn.below(1, 12, 1), 2985984);
        ANSWERS.due("none told at all", barn.below(2, 12, 0), 1);
        ANSWERS.due("n 1 in the last season", barn.below(3, 1, 3), 1);
        ANSWERS.due("n 2 in the last season", barn.below(3, 2, 3), 5);
        ANSWERS.due("n 2 in the last but one", barn.below(3, 2, 2), 2);
        ANSWERS.due("n 3 in the last but one", barn.below(3, 3, 2), 10);
    }

    private static void welfareAtItsEnds() {
        ANSWERS.sentence(18, "BELOW times the mean of GOODS (of what is EATEN) less C for each KEPT, over all SEASONS to go");
        CornBarn barn = Barns.withLands("y 1;w 10 1;w 6 1;w 3 1;c 30", "y 1" + ";w 99 9".repeat(5) + ";h 0 20 9;h 0 20 3");
        int[] due = {0, 10, 16, 19, 19};
        for (int amount = 0; amount < due.length; amount++) {
            ANSWERS.due("n 1 of " + amount, barn.welfare(0, GOOD, 1, 0, amount), due[amount]);
        }
        ANSWERS.due("what ONE sells alone", barn.welfare(0, ONE, 1, 0, 3), 16);
        ANSWERS.due("the most", barn.welfare(1, NONE, 12, 0, 40), TWELVE_TO_THE_11TH * (40 + 11 * 20) * 99);
        // By the rule one is kept of two at a cost of 30: 10 and 10 eaten.
        CornBarn dear = Barns.withRule("y 1;w 10 1;w 6 1;w 3 1;c 30", "k:a=2?1");
        ANSWERS.due("less than 0", dear.welfare(0, RULE, 2, 0, 2), -10);
        dear.law(0, 0);
        ANSWERS.due("by another law", dear.welfare(0, RULE, 2, 0, 2), 16);
        dear.law(0, 1);
        dear.by(0, -1);
        ANSWERS.due("by no rule", dear.welfare(0, RULE, 2, 0, 2), 16);
        dear.by(0, 0);
        ANSWERS.due("by the rule again", dear.welfare(0, RULE, 2, 0, 2), -10);
        // In seasons of 0 and of 4 sacks: nothing, then 19 (and by the rule of two kept twice as much less 60).
        CornBarn round = Barns.withRule("y 2;w 10 1;w 6 1;w 3 1;c 30;h 0 4 2", "k:2");
        ANSWERS.due("round the year", round.welfare(0, NONE, 3, 1, 0), 2 * (0 + 19 + 0));
        ANSWERS.due("round the year, two kept", round.welfare(0, RULE, 3, 1, 0), 2 * (0 + 16 - 60 + 16));
        ANSWERS.sentence(19, "BELOW times the mean of what it takes less C for each KEPT");
        ANSWERS.due("nothing there", barn.takings(0, 1, 0, 0), 0);
        ANSWERS.due("two of three", barn.takings(0, 1, 0, 3), 12);
        ANSWERS.due("the most", barn.takings(1, 12, 0, 40), TWELVE_TO_THE_11TH * (40 + 11 * 20) * 99);
    }

    private static void unlikeAtTheLowest() {
        ANSWERS.sentence(20, "The lowest AMOUNT at which ALL and GOOD keep unlike much. NONE: none");
        CornBarn barn = Barns.withLands("y 2;w 10 2;w 4 1;h 0 4 1", "y 1", "y 1;w 10 1;w 6 1;w 3 1;h 0 1 1;h 0 3 1");
        // Of two ALL keep one (10 then is more than 4 now), GOOD none (10 then for 10 now).
        ANSWERS.due("at two", barn.unlike(0, 2, 0), 2);
        ANSWERS.due("at none with n 1", barn.unlike(0, 1, 0), -1);
        ANSWERS.due("at none with nobody", barn.unlike(1, 12, 0), -1);
        ANSWERS.due("at three", barn.unlike(2, 2, 0), 3);
        barn.law(0, 0);
        ANSWERS.due("at none with a law of 0", barn.unlike(0, 2, 0), -1);
    }

    private static void unlikeAtTheHighest() {
        ANSWERS.sentence(20, "AMOUNTS are 0 .. 40");
        // 39 (then 40) pay 9, five more pay 8: of as many ALL keep one (9 then is more than 8 now), GOOD none (9 for 9).
        CornBarn barn = Barns.withLands("y 2" + ";w 9 9".repeat(4) + ";w 9 3;w 8 5;r 1",
            "y 2" + ";w 9 9".repeat(4) + ";w 9 4;w 8 5;r 1");
        ANSWERS.due("at 39", barn.unlike(0, 2, 0), 39);
        ANSWERS.due("at 40", barn.unlike(1, 2, 0), 40);
    }

    private static int everOf(String land, String rule) {
        return Barns.withRule(land, rule).ever(0, RULE);
    }

    private static void everWithinBounds() {
        ANSWERS.sentence(21, "the least n (2 .. 11) with which as much is KEPT with n and with n and one to go; "
            + "NONE: there is none");
        ANSWERS.due("nothing kept ever", everOf("y 2", "k:0"), 2);
        ANSWERS.due("as much from 2 on", everOf("y 2", "k:1"), 2);
        ANSWERS.due("1 and 2 alike do not count", everOf("y 2", "k:n=2?0;k:1"), 3);
        ANSWERS.due("from 11 on", everOf("y 2", "k:n<11?n;k:11"), 11);
        ANSWERS.due("11 and 12 unlike", everOf("y 2", "k:n<12?n;k:12"), -1);
        ANSWERS.due("never", everOf("y 2", "k:n"), -1);
        ANSWERS.due("alike once", everOf("y 2", "k:n=6?5;k:n"), 5);
        ANSWERS.sentence(21, "in each SEASON at each AMOUNT");
        ANSWERS.due("at 40 in season 3 alone", everOf("y 4", "k:a=40&s=3&n<7?n"), 7);
        ANSWERS.due("at 1 in season 0 alone", everOf("y 4", "k:a=1&s=0&n/2*2=n?1"), -1);
        ANSWERS.due("at 40 in season 3 alone", everOf("y 4", "k:a=40&s=3&n/2*2=n?1"), -1);
        ANSWERS.due("NONE", Barns.withLands(HUNGRY).ever(0, NONE), 2);
        ANSWERS.due("a land without a rule", Barns.withLands(HUNGRY).ever(0, RULE), 2);
    }

    private static void edgeWithinBounds() {
        ANSWERS.sentence(22, "the least C (0 .. 30, all else as it is) with which ALL keep nothing; NONE: there is none");
        String[] lands = {"y 2;w 30 2;h 0 9 1;c 7", "y 2;w 31 2;h 0 9 1;c 7", "y 2;w 1 2", "y 1", "y 2;w 99 2"};
        int[] due = {30, -1, 1, 0, -1};
        for (int i = 0; i < lands.length; i++) {
            CornBarn barn = Barns.withLands(lands[i]);
            ANSWERS.due(lands[i], barn.edge(0, 2, 0, 9), due[i]);
            ANSWERS.due("C stays", barn.told(0, 2), lands[i].endsWith("c 7") ? 7 : 0);
            ANSWERS.due("in the last season", barn.edge(0, 1, 0, 40), 0);
            ANSWERS.due("of nothing", barn.edge(0, 2, 0, 0), 0);
        }
        CornBarn barn = Barns.withLands("y 2;w 10 2;w 4 1;h 0 4 1");
        ANSWERS.due("10 less C is more than 4", barn.edge(0, 2, 0, 2), 6);
        ANSWERS.due("ALL keep as before", barn.keep(0, ALL, 2, 0, 2), 1);
        barn.law(0, 0);
        ANSWERS.due("by a law of 0", barn.edge(0, 2, 0, 40), 0);
    }

    private static void tablesAtFirst() {
        ANSWERS.sentence(24, "TOLD TABLE by hand (0 at first); the lowest AMOUNT at which ALL keep otherwise; NONE: at none");
        CornBarn barn = Barns.withLands("y 4", "y 2;w 10 2;h 0 4 1;r 1");
        ANSWERS.due("zeros are right", barn.judge(0, 12, 3), -1);
        ANSWERS.due("tell at 40", barn.tell(0, 3, 40, 20), true);
        ANSWERS.due("at 40", barn.judge(0, 12, 3), 40);
        ANSWERS.due("not in the season ahead", barn.judge(0, 12, 2), -1);
        ANSWERS.due("not in the next", barn.judge(0, 12, 0), -1);
        ANSWERS.due("tell at 1", barn.tell(0, 3, 1, 1), true);
        ANSWERS.due("at 1", barn.judge(0, 12, 3), 1);
        ANSWERS.due("told again", barn.tell(0, 3, 1, 0), true);
        ANSWERS.due("at 40 again", barn.judge(0, 12, 3), 40);
        // In the other land ALL keep one of two or more.
        ANSWERS.due("zeros are wrong at 2", barn.judge(1, 2, 0), 2);
        for (int amount = 2; amount <= 40; amount++) {
            ANSWERS.due("at " + amount, barn.judge(1, 2, 0), amount);
            barn.tell(1, 0, amount, 1);
        }
        ANSWERS.due("at none", barn.judge(1, 2, 0), -1);
        ANSWERS.due("with one to go", barn.judge(1, 1, 0), 2);
    }

    private static void newsOfTwoAtLeast() {
        ANSWERS.sentence(25, "NEWS (n 2 at least)");
        CornBarn barn = Barns.withLands("y 1;w 10 1;w 6 1;w 3 1;h 0 1 1;h 0 3 1", "y 1;w 10 1;w 6 1;w 3 1;h 0 1 9");
        ANSWERS.due("n 0", barn.news(0, 0, 0, 3), -1);
        ANSWERS.due("n 1", barn.news(0, 1, 0, 3), -1);
        // Kept for one sack: 6 for 3; for three sacks none is kept.
        ANSWERS.due("n 2", barn.news(0, 2, 0, 3), 3);
        ANSWERS.due("n 2, nothing there", barn.news(0, 2, 0, 0), 0);
        CornBarn cost = Barns.withLands("y 1;w 10 1;w 6 1;w 3 1;h 0 1 1;h 0 3 1;c 2", "y 1;w 10 1;w 6 1;w 3 1;h 0 1 1;h 0 3 1;c 3");
        ANSWERS.due("6 for 3 at a cost of 2", cost.news(0, 2, 0, 3), 1);
        ANSWERS.due("6 for 3 at a cost of 3", cost.news(1, 2, 0, 3), 0);
        ANSWERS.due("n 12, one harvest alone is no news", barn.news(1, 12, 0, 40), 0);
        ANSWERS.due("n 13", barn.news(0, 13, 0, 3), -1);
        barn.law(0, 0);
        ANSWERS.due("nothing may be kept", barn.news(0, 2, 0, 3), 0);
    }

    public static void main(String[] args) {
        moreSacksThanEaters();
        asManyAreEaten();
        goodsOfAll();
        miceCut();
        lawAtFirst();
        amountRoomAndLaw();
        inTheLastSeasonNothing();
        noneKeepNothing();
        allKeepForMore();
        allByTheMean();
        allWithMice();
        allKeepingThere();
        goodTheFewest();
        oneSellsWithinWhatIsNotKept();
        oneTheFewest();
        onesPrice();
        ruleWithinBounds();
        lettersOfALand();
        belowOfOne();
        welfareAtItsEnds();
        unlikeAtTheLowest();
        unlikeAtTheHighest();
        everWithinBounds();
        edgeWithinBounds();
        tablesAtFirst();
        newsOfTwoAtLeast();
        ANSWERS.end();
    }
}
