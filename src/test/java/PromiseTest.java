/** Each promise of the document in its order: ordinary inputs, the edges that the document names, wrong inputs. */
public final class PromiseTest {
    private static final int LOW = Barns.LOW;
    private static final int HIGH = Barns.HIGH;
    private static final long THROWN = Barns.THROWN;

    // Eaters who pay 10, 10, 4; four sacks in season 0, none in season 1; keeping costs nothing.
    private static final String PLAIN = "y 2;w 10 2;w 4 1;h 0 4 1";
    // Eaters who pay 10, 6, 3; one sack or three, as likely.
    private static final String CHANCE = "y 1;w 10 1;w 6 1;w 3 1;h 0 1 1;h 0 3 1";

    private static final Answers ANSWERS = new Answers();

    private static void newObject() {
        CornBarn barn = new CornBarn();
        for (int what = 0; what < 5; what++) {
            ANSWERS.due(1, "count(" + what + ")", barn.count(what), 0);
        }
        ANSWERS.due(1, "told", barn.told(0, 0), -1);
        ANSWERS.due(1, "spent", barn.spent(), 0);
        ANSWERS.due(1, "ran", Barns.ran(barn, 0, 0, 0), THROWN);
        ANSWERS.due(1, "NONE", CornBarn.NONE, -1);
        ANSWERS.due(1, "HIDDEN", CornBarn.HIDDEN, -100000);
    }

    private static void tape() {
        CornBarn barn = new CornBarn();
        ANSWERS.due(2, "zeros alone", barn.feed(0, 0, 0, 0, 0), 0);
        ANSWERS.due(2, "zeros between", barn.feed(0x79000020, 0, 0x00310000, 0, 0), 3);
        ANSWERS.due(2, "what stands", barn.fault(0), -1);
        barn.end(0);
        ANSWERS.due(2, "high bytes", barn.feed(-1, 0, 0, 0, 0), 4);
        ANSWERS.due(2, "high bytes are no text", barn.fault(0), 0);
        barn.end(0);
        for (int i = 1; i <= 12; i++) {
            ANSWERS.due(2, "twenty more", barn.feed(-1, -1, -1, -1, -1), 20 * i);
        }
        ANSWERS.due(2, "a byte too many", barn.feed(0, 0, 0, 0, 1), -1);
        ANSWERS.due(2, "nothing more", barn.feed(0, 0, 0, 0, 0), 240);
        ANSWERS.due(3, "end(241)", barn.end(241), false);
        ANSWERS.due(3, "end(-1)", barn.end(-1), false);
        ANSWERS.due(3, "end(240)", barn.end(240), true);
        ANSWERS.due(3, "end(230)", barn.end(230), true);
        ANSWERS.due(2, "eleven too many", barn.feed(-1, -1, 0x01010100, 0, 0), -1);
        ANSWERS.due(2, "a refused one leaves it", barn.count(4), 230);
        ANSWERS.due(2, "ten more", barn.feed(-1, -1, 0x01000001, 0, 0), 240);
        ANSWERS.due(3, "end(239)", barn.end(239), true);
        for (int i = 0; i < 5; i++) {
            int[] words = {0, 0, 0, 0, 0};
            words[i] = 0x00ff0100;
            ANSWERS.due(2, "two at place " + i, barn.feed(words[0], words[1], words[2], words[3], words[4]), -1);
        }
        ANSWERS.due(2, "one", barn.feed(0, 0, 0, 7, 0), 240);
        ANSWERS.due(3, "end(0)", barn.end(0), true);
        ANSWERS.due(3, "end(1) of nothing", barn.end(1), false);
        Barns.feed(barn, "y 1;w 2 x");
        ANSWERS.due(3, "end(3)", barn.end(3), true);
        ANSWERS.due(3, "the first are left", barn.fault(0), -1);
    }

    private static void landFaults() {
        String w10 = ";w 1 1;w 1 1;w 1 1;w 1 1;w 1 1;w 1 1;w 1 1;w 1 1;w 1 1;w 1 1";
        Object[][] texts = {
            {"", 0}, {" ", 1}, {"w 1 1", 0}, {"y", 1}, {"y1", 1}, {"y 0", 2}, {"y 5", 2}, {"y 4", -1}, {"y 04", -1},
            {"y 001", 3}, {"y 011", 4}, {"y 51", 3}, {"y 512", 3}, {"y 1;", 4}, {"y 1 ; ", 6}, {"y 1;;", 4}, {"y 1 w 1 1", 4},
            {"y 1;x", 4}, {"y 1;y 1", 4}, {"  y   1  ", -1}, {"y 1;w 100 1", 8}, {"y 1;w 99 9", -1}, {"y 1;w 1 0", 8},
            {"y 1;w 1 10", 9}, {"y 1;w 1", 7}, {"y 1;w 1 1 1", 10}, {"y 1;w1 1", 5}, {"y 1;w 1;", 7}, {"y 1;h 1 1 1", 6},
            {"y 4;h 3 20 9", -1}, {"y 4;h 3 21 9", 9}, {"y 4;h 3 20 0", 11}, {"y 4;h 3 20 10", 12}, {"y 4;h 4", 6},
            {"y 1;h 0 1 9;h 0 1 3", -1}, {"y 1;h 0 1 9;h 0 1 4", 18}, {"y 1;h 0 1 9;h 0 1 3;h 0 1 1", 26},
            {"y 1;h 0 1 1;h 0 1 1;h 0 1 1;h 0 1 1", -1}, {"y 1;h 0 1 1;h 0 1 1;h 0 1 1;h 0 1 1;h 00 1 1", 39},
            {"y 1;c 30", -1}, {"y 1;c 31", 7}, {"y 1;m 0", -1}, {"y 1;m 1", 6}, {"y 1;m 2", -1}, {"y 1;m 20", -1},
            {"y 1;m 21", 7}, {"y 1;r 0", -1}, {"y 1;r 20", -1}, {"y 1;r 21", 7}, {"y 1;r -1", 6}, {"Y 1", 0},
            {"y 1" + w10 + w10, -1}, {"y 1" + w10 + w10 + ";w 1 1", 124}, {"y 1" + w10 + w10 + ";c 1", -1},
            {"y 1;\t", 4}};
        for (Object[] row : texts) {
            ANSWERS.due(4, "fault(0) of \"" + row[0] + "\"", Barns.faultOf(0, (String) row[0]), (Integer) row[1]);
        }
    }

    private static void ruleFaults() {
        Object[][] texts = {
            {"", 0}, {"k", 1}, {"k:", 2}, {"k:1", -1}, {"k1", 1}, {"k:1;", 4}, {"k:1;k:2", -1}, {"k:1;;", 4},
            {"k:12345", 6}, {"k:1 2", 4}, {"k:b", 2}, {"k:asn", 3}, {"k:a?1", 3}, {"k:a>1", 5}, {"k:a>1?", 6},
            {"k:a>1?2", -1}, {"k:a>1;k:1", 5}, {"k:a>1?2?3", 7}, {"k:a>1>2?3", 5}, {"k:(a)", 4}, {"k:(a>1)", 7},
            {"k:(a>1)?1", -1}, {"k:(a>1)+1", 7}, {"k:!1", 4}, {"k:!a=1?2", -1}, {"k:!(a=1)&!s=2|n<3?4", -1},
            {"k:[a>1]?1", 4}, {"k:[a", 4}, {"k:[]", 3}, {"k:-1", 2}, {"k:1+", 4}, {"k:1+*2", 4}, {"k:a>=1?2", 4},
            {"k:((((((a=1))))))?1", -1}, {"k:(((((((a=1", 8}, {"k:!!!!!!a=1?1", -1}, {"k:!!!!!!!a=1?1", 8},
            {"k:!!!!!![a]=1?1", 8}, {"k:[[[[[[1]]]]]]", -1}, {"k:!([!", 5}, {"k:!(!([[1]]=1&[[[1", 16},
            {"k:!!!!!!a=1&!!!!!!a=2?1", -1}, {"k:a=1&!!!!!!a=2?1", -1}, {"k:a=[[[[[[2]]]]]]?1", -1},
            {"k:a=1|((((((a=2))))))?1", -1}, {"k:a=1?[[[[[[2]]]]]]", -1}, {"k:a=1?[[[[[[[2", 12}, {"k:a=[[[[[[[2", 10}, {"k:[1]+[2]*[3]/[4]-[5]+[6]+[7]", -1},
            {" k : a > 1 ? 2 ; k : [ 3 ] ", -1}, {"k:a=1&?1", 6}, {"k:a=1|", 6}, {"k:)", 2}, {"k:1)", 3}, {"k:1]", 3}};
        for (Object[] row : texts) {
            ANSWERS.due(4, "fault(1) of \"" + row[0] + "\"", Barns.faultOf(1, (String) row[0]), (Integer) row[1]);
        }
        CornBarn barn = new CornBarn();
        ANSWERS.due(4, "fault(2)", barn.fault(2), -2);
        ANSWERS.due(4, "fault(-1)", barn.fault(-1), -2);
    }

    private static void landsAndRules() {
        CornBarn barn = new CornBarn();
        Barns.feed(barn, "y 5");
        ANSWERS.due(5, "land() of a fault", barn.land(), -1);
        ANSWERS.due(5, "a refused one leaves the tape", barn.count(4), 3);
        ANSWERS.due(6, "rule() of a fault", barn.rule(), -1);
        ANSWERS.due(6, "a refused one leaves the tape", barn.count(4), 3);
        barn.end(0);
        for (int i = 0; i < 6; i++) {
            Barns.feed(barn, "y 1");
            ANSWERS.due(5, "land()", barn.land(), i);
            ANSWERS.due(5, "the tape is empty", barn.count(4), 0);
            Barns.feed(barn, "k:" + i);
            ANSWERS.due(6, "rule()", barn.rule(), i);
            ANSWERS.due(6, "the tape is empty", barn.count(4), 0);
        }
        Barns.feed(barn, "y 1");
        ANSWERS.due(5, "a seventh", barn.land(), -1);
        ANSWERS.due(5, "its tape", barn.count(4), 3);
        ANSWERS.due(5, "six lands", barn.count(0), 6);
        ANSWERS.due(7, "of the sixth", barn.told(5, 0), 1);
        ANSWERS.due(7, "of a seventh", barn.told(6, 0), -1);
        ANSWERS.due(7, "of an eighth", barn.told(7, 0), -1);
        barn.end(0);
        Barns.feed(barn, "k:1");
        ANSWERS.due(6, "a seventh", barn.rule(), -1);
        ANSWERS.due(6, "six rules", barn.count(1), 6);
        ANSWERS.due(13, "the sixth", Barns.worth(barn, 5, 0, 0, 0, 0, 0), 5);
    }

    private static void tellings() {
        CornBarn barn = Barns.withLands("y 3;c 1;m 5;r 7;w 2 9;w 99 2;c 4;m 3;r 6;h 2 20 9;h 2 0 3", "y 1");
        long[] want = {3, 11, 4, 3, 6, 20, -1, 216};
        long[] bare = {1, 0, 0, 0, 20, 20, -1, 0};
        for (int what = 0; what < 8; what++) {
            ANSWERS.due(7, "told(0, " + what + ")", barn.told(0, what), want[what]);
            ANSWERS.due(7, "told(1, " + what + ")", barn.told(1, what), bare[what]);
        }
        for (int off : new int[] {-1, 8, LOW, HIGH}) {
            ANSWERS.due(7, "told(0, " + off + ")", barn.told(0, off), -1);
            ANSWERS.due(7, "told(" + off + ", 0)", barn.told(off, 0), -1);
            ANSWERS.due(8, "harvest of no land", Barns.harvest(barn, off, 0, 0, 0), THROWN);
            ANSWERS.due(8, "harvest of no season", Barns.harvest(barn, 0, off, 0, 0), THROWN);
            ANSWERS.due(8, "no harvest", Barns.harvest(barn, 0, 2, off, 0), THROWN);
            ANSWERS.due(8, "nothing of a harvest", Barns.harvest(barn, 0, 2, 0, off), THROWN);
        }
        ANSWERS.due(8, "season 4 of 3", Barns.harvest(barn, 0, 4, 0, 0), THROWN);
        ANSWERS.due(8, "season 3 of 3", Barns.harvest(barn, 0, 3, 0, 0), THROWN);
        ANSWERS.due(8, "what 2", Barns.harvest(barn, 0, 2, 0, 2), THROWN);
        ANSWERS.due(8, "first", Barns.harvest(barn, 0, 2, 0, 0), 20);
        ANSWERS.due(8, "its weight", Barns.harvest(barn, 0, 2, 0, 1), 9);
        ANSWERS.due(8, "second", Barns.harvest(barn, 0, 2, 1, 0), 0);
        ANSWERS.due(8, "its weight", Barns.harvest(barn, 0, 2, 1, 1), 3);
        ANSWERS.due(8, "no third", Barns.harvest(barn, 0, 2, 2, 1), THROWN);
        ANSWERS.due(8, "none told", Barns.harvest(barn, 0, 1, 0, 0), 0);
        ANSWERS.due(8, "none told: weight", Barns.harvest(barn, 0, 1, 0, 1), 1);
        ANSWERS.due(8, "none told: one alone", Barns.harvest(barn, 0, 1, 1, 1), THROWN);
    }

    private static void eatersAndMice() {
        CornBarn barn = Barns.withLands("y 1;w 2 1;w 9 2;w 5 1;m 4", "y 1");
        int[][] rows = {{0, 0, 9, 4}, {1, 9, 9, 3}, {2, 18, 5, 2}, {3, 23, 2, 1}, {4, 25, 0, 0}, {200, 25, 0, 0}};
        for (int[] row : rows) {
            for (int what = 0; what < 3; what++) {
                ANSWERS.due(9, "eaten(0, " + row[0] + ", " + what + ")", barn.eaten(0, row[0], what), row[what + 1]);
                ANSWERS.due(9, "nobody there", barn.eaten(1, row[0], what), 0);
            }
        }
        for (int off : new int[] {-1, 201, LOW, HIGH}) {
            ANSWERS.due(9, "eaten(0, " + off + ", 0)", barn.eaten(0, off, 0), -1);
            ANSWERS.due(9, "eaten(0, 0, " + off + ")", barn.eaten(0, 0, off), -1);
            ANSWERS.due(9, "eaten of no land", barn.eaten(off, 0, 0), -1);
            ANSWERS.due(10, "left(0, " + off + ")", barn.left(0, off), -1);
            ANSWERS.due(10, "left of no land", barn.left(off, 0), -1);
        }
        ANSWERS.due(9, "what 3", barn.eaten(0, 0, 3), -1);
        int[] left = {0, 1, 2, 3, 3, 4, 5, 6, 6};
        for (int k = 0; k < left.length; k++) {
            ANSWERS.due(10, "left(0, " + k + ")", barn.left(0, k), left[k]);
            ANSWERS.due(10, "no mice", barn.left(1, k), k);
        }
        ANSWERS.due(10, "left(0, 20)", barn.left(0, 20), 15);
        ANSWERS.due(10, "left(0, 21)", barn.left(0, 21), -1);
    }

    private static void lawAndRule() {
        CornBarn barn = Barns.withLands(PLAIN);
        ANSWERS.due(11, "no land", barn.law(1, 0), false);
        ANSWERS.due(11, "-1", barn.law(0, -1), false);
        ANSWERS.due(11, "21", barn.law(0, 21), false);
        ANSWERS.due(11, "stays", barn.told(0, 5), 20);
        ANSWERS.due(14, "without", barn.keep(0, 1, 2, 0, 4), 2);
        ANSWERS.due(11, "1", barn.law(0, 1), true);
        ANSWERS.due(11, "told", barn.told(0, 5), 1);
        for (int keepers = 1; keepers < 4; keepers++) {
            ANSWERS.due(11, "by " + keepers, barn.keep(0, keepers, 2, 0, 4), 1);
        }
        ANSWERS.due(11, "0", barn.law(0, 0), true);
        ANSWERS.due(11, "nothing", barn.keep(0, 2, 2, 0, 4), 0);
        ANSWERS.due(11, "20", barn.law(0, 20), true);
        ANSWERS.due(11, "as before", barn.keep(0, 2, 2, 0, 4), 2);
        ANSWERS.due(12, "no rule yet", barn.by(0, 0), false);
        ANSWERS.due(12, "none", barn.by(0, -1), true);
        ANSWERS.due(12, "none of no land", barn.by(1, -1), false);
        Barns.feed(barn, "k:n>2?a;k:3");
        barn.rule();
        ANSWERS.due(12, "as NONE", barn.keep(0, 4, 2, 0, 4), 0);
        ANSWERS.due(12, "rule 0", barn.by(0, 0), true);
        ANSWERS.due(12, "told", barn.told(0, 6), 0);
        ANSWERS.due(12, "kept by it", barn.keep(0, 4, 2, 0, 40), 3);
        ANSWERS.due(12, "as much as may be", barn.keep(0, 4, 3, 0, 40), 20);
        ANSWERS.due(12, "not more than there is", barn.keep(0, 4, 2, 0, 2), 2);
        ANSWERS.due(12, "in the last season nothing", barn.keep(0, 4, 1, 0, 40), 0);
        ANSWERS.due(12, "rule 1", barn.by(0, 1), false);
        ANSWERS.due(12, "rule -2", barn.by(0, -2), false);
        ANSWERS.due(12, "stays", barn.told(0, 6), 0);
        ANSWERS.due(12, "none again", barn.by(0, -1), true);
        ANSWERS.due(12, "told", barn.told(0, 6), -1);
        ANSWERS.due(12, "as NONE again", barn.keep(0, 4, 3, 0, 40), 0);
    }

    private static void worths() {
        ANSWERS.due(13, "first that holds", Barns.worthOf("k:a>2&n>1?a-2;k:0-5", 5, 0, 2, 9, 9), 3);
        ANSWERS.due(13, "else the next", Barns.worthOf("k:a>2&n>1?a-2;k:0-5", 5, 0, 1, 9, 9), -5);
        ANSWERS.due(13, "none holds", Barns.worthOf("k:a>2?7", 2, 0, 1, 9, 9), 0);
        ANSWERS.due(13, "letters", Barns.worthOf("k:a*1000+s*100+n*10+p-r", 1, 2, 3, 4, 5), 1229);
        ANSWERS.due(13, "times ahead of plus", Barns.worthOf("k:2+3*4-8/3", 0, 0, 0, 0, 0), 12);
        ANSWERS.due(13, "from the left", Barns.worthOf("k:9-4-3;k:1", 0, 0, 0, 0, 0), 2);
        ANSWERS.due(13, "from the left", Barns.worthOf("k:100/7*7", 0, 0, 0, 0, 0), 98);
        ANSWERS.due(13, "cut towards 0", Barns.worthOf("k:[0-7]/2", 0, 0, 0, 0, 0), -3);
        ANSWERS.due(13, "by 0", Barns.worthOf("k:5/0+1", 0, 0, 0, 0, 0), 1);
        ANSWERS.due(13, "bound above", Barns.worthOf("k:9999*9999-1", 0, 0, 0, 0, 0), 999999);
        ANSWERS.due(13, "bound below", Barns.worthOf("k:[0-9999]*9999+1", 0, 0, 0, 0, 0), -999999);
        ANSWERS.due(13, "bound of plus", Barns.worthOf("k:a+a", HIGH, 0, 0, 0, 0), 1000000);
        ANSWERS.due(13, "bound of minus", Barns.worthOf("k:s-a", HIGH, LOW, 0, 0, 0), -1000000);
        ANSWERS.due(13, "bound of times", Barns.worthOf("k:s*s/1000", 0, LOW, 0, 0, 0), 1000);
        ANSWERS.due(13, "bound of parts", Barns.worthOf("k:s/n", 0, LOW, -1, 0, 0), 1000000);
        ANSWERS.due(13, "no bound without a sign", Barns.worthOf("k:a", 1000001, 0, 0, 0, 0), 1000001);
        ANSWERS.due(13, "& ahead of |", Barns.worthOf("k:1=1|1=2&1=3?1;k:2", 0, 0, 0, 0, 0), 1);
        ANSWERS.due(13, "& ahead of |", Barns.worthOf("k:(1=1|1=2)&1=3?1;k:2", 0, 0, 0, 0, 0), 2);
        ANSWERS.due(13, "! of the next unit alone", Barns.worthOf("k:!1=2|1=1?1;k:2", 0, 0, 0, 0, 0), 1);
        ANSWERS.due(13, "! of the next unit alone", Barns.worthOf("k:!1=1&1=2?1;k:2", 0, 0, 0, 0, 0), 2);
        ANSWERS.due(13, "!", Barns.worthOf("k:!1=1?1;k:2", 0, 0, 0, 0, 0), 2);
        ANSWERS.due(13, "| of two that hold not", Barns.worthOf("k:1=2|1=3?1;k:2", 0, 0, 0, 0, 0), 2);
        ANSWERS.due(13, "| of the first", Barns.worthOf("k:1=1|1=3?1;k:2", 0, 0, 0, 0, 0), 1);
        ANSWERS.due(13, "| of the second", Barns.worthOf("k:1=2|1=1?1;k:2", 0, 0, 0, 0, 0), 1);
        ANSWERS.due(13, "| of both", Barns.worthOf("k:1=1|2=2?1;k:2", 0, 0, 0, 0, 0), 1);
        ANSWERS.due(13, "& of the second", Barns.worthOf("k:1=2&1=1?1;k:2", 0, 0, 0, 0, 0), 2);
        ANSWERS.due(13, "& of both", Barns.worthOf("k:1=1&2=2?1;k:2", 0, 0, 0, 0, 0), 1);
        ANSWERS.due(13, "!!", Barns.worthOf("k:!!1=1?1;k:2", 0, 0, 0, 0, 0), 1);
        ANSWERS.due(13, "less", Barns.worthOf("k:1<1?1;k:1<2?2", 0, 0, 0, 0, 0), 2);
        ANSWERS.due(13, "more", Barns.worthOf("k:1>1?1;k:2>1?2", 0, 0, 0, 0, 0), 2);
        ANSWERS.due(13, "sums compared", Barns.worthOf("k:a+1=s*2?1;k:2", 3, 2, 0, 0, 0), 1);
        CornBarn barn = new CornBarn();
        for (int off : new int[] {-1, 0, 6, LOW, HIGH}) {
            ANSWERS.due(13, "no rule " + off, Barns.worth(barn, off, 0, 0, 0, 0, 0), THROWN);
        }
        CornBarn kept = Barns.withLands("y 2;w 50 3;w 7 3;r 9");
        Barns.feed(kept, "k:s=1&n=4&p=7&a=5&r=5?2;k:a=12&r=9?3");
        kept.rule();
        kept.by(0, 0);
        ANSWERS.due(13, "letters of a land", kept.keep(0, 4, 4, 1, 5), 2);
        ANSWERS.due(13, "room", kept.keep(0, 4, 4, 1, 12), 3);
        kept.law(0, 8);
        ANSWERS.due(13, "law", kept.keep(0, 4, 4, 1, 12), 0);
    }

    private static void keepersOfAPlainLand() {
        CornBarn barn = Barns.withLands(PLAIN, CHANCE, "y 2;w 10 2;w 4 1;h 0 4 1;m 2", "y 2;w 10 2;w 4 1;h 0 4 1;c 6");
        long[] kept = {0, 2, 2, 2, 0};
        long[] sold = {3, 2, 2, 2, 3};
        long[] price = {0, 4, 4, 10, 0};
        long[] welfare = {24, 40, 40, 40, 24};
        for (int keepers = 0; keepers < 5; keepers++) {
            ANSWERS.due(14, "keep by " + keepers, barn.keep(0, keepers, 2, 0, 4), kept[keepers]);
            ANSWERS.due(14, "in the last season", barn.keep(0, keepers, 1, 0, 40), 0);
            ANSWERS.due(15, "sold by " + keepers, barn.sold(0, keepers, 2, 0, 4), sold[keepers]);
            ANSWERS.due(16, "price by " + keepers, barn.price(0, keepers, 2, 0, 4), price[keepers]);
            ANSWERS.due(16, "nothing there", barn.price(0, keepers, 1, 0, 0), keepers == 3 ? 100 : 10);
            ANSWERS.due(18, "welfare by " + keepers, barn.welfare(0, keepers, 2, 0, 4), welfare[keepers]);
        }
        ANSWERS.due(14, "ALL by the mean", barn.keep(1, 1, 2, 0, 3), 1);
        ANSWERS.due(14, "GOOD, of several the fewest", barn.keep(1, 2, 2, 0, 3), 0);
        ANSWERS.due(14, "ONE, seasons ahead", barn.keep(1, 3, 2, 0, 3), 1);
        // Half of 10 is 5: above the prices 0 and 4, not above 10.
        ANSWERS.due(14, "ALL with mice", barn.keep(2, 1, 2, 0, 4), 2);
        ANSWERS.due(14, "ALL with mice, price 4", barn.keep(2, 1, 2, 0, 2), 1);
        ANSWERS.due(14, "ALL with mice, price 10", barn.keep(2, 1, 2, 0, 1), 0);
        ANSWERS.due(14, "GOOD with mice", barn.keep(2, 2, 2, 0, 4), 1);
        ANSWERS.due(14, "ALL, 10 less 6 is not above 4", barn.keep(3, 1, 2, 0, 2), 0);
        ANSWERS.due(14, "ALL, 10 less 6 is above 0", barn.keep(3, 1, 2, 0, 3), 1);
        ANSWERS.due(18, "cost counts", barn.welfare(3, 1, 2, 0, 3), 24);
        ANSWERS.due(17, "below 1", barn.below(1, 1, 0), 1);
        ANSWERS.due(17, "below 12", barn.below(1, 12, 0), 2048);
        ANSWERS.due(19, "takings", barn.takings(0, 2, 0, 4), 40);
        ANSWERS.due(19, "takings by the mean", barn.takings(1, 2, 0, 3), 48);
        ANSWERS.due(19, "takings of the last season", barn.takings(0, 1, 0, 3), 20);
        ANSWERS.due(18, "what ONE throws away", barn.welfare(0, 3, 1, 0, 3), 20);
        ANSWERS.due(20, "unlike", barn.unlike(0, 2, 0), 2);
        ANSWERS.due(20, "unlike nowhere", barn.unlike(0, 1, 0), -1);
        ANSWERS.due(20, "unlike by the mean", barn.unlike(1, 2, 0), 3);
    }

    private static void wrongKeepers() {
        CornBarn barn = Barns.withLands(PLAIN);
        int[][] calls = {{1, 1, 2, 0, 4}, {-1, 1, 2, 0, 4}, {0, -1, 2, 0, 4}, {0, 5, 2, 0, 4}, {0, 1, 0, 0, 4},
            {0, 1, 13, 0, 4}, {0, 1, 2, -1, 4}, {0, 1, 2, 2, 4}, {0, 1, 2, 0, -1}, {0, 1, 2, 0, 41},
            {HIGH, 1, 2, 0, 4}, {0, HIGH, 2, 0, 4}, {0, 1, HIGH, 0, 4}, {0, 1, 2, HIGH, 4}, {0, 1, 2, 0, HIGH},
            {LOW, 1, 2, 0, 4}, {0, LOW, 2, 0, 4}, {0, 1, LOW, 0, 4}, {0, 1, 2, LOW, 4}, {0, 1, 2, 0, LOW}};
        for (int[] c : calls) {
            String at = " of wrong ones";
            ANSWERS.due(14, "keep" + at, barn.keep(c[0], c[1], c[2], c[3], c[4]), -1);
            ANSWERS.due(15, "sold" + at, barn.sold(c[0], c[1], c[2], c[3], c[4]), -1);
            ANSWERS.due(16, "price" + at, barn.price(c[0], c[1], c[2], c[3], c[4]), -1);
            ANSWERS.due(18, "welfare" + at, barn.welfare(c[0], c[1], c[2], c[3], c[4]), -1);
            ANSWERS.due(26, "after" + at, barn.after(c[0], c[1], c[2], c[3], c[4], 0, 4, 0), -1);
            if (c[1] == 1) {
                ANSWERS.due(19, "takings" + at, barn.takings(c[0], c[2], c[3], c[4]), -1);
                ANSWERS.due(22, "edge" + at, barn.edge(c[0], c[2], c[3], c[4]), -1);
                ANSWERS.due(25, "news" + at, barn.news(c[0], c[2], c[3], c[4]), -1);
                ANSWERS.due(23, "tell" + at, c[2] == 2 && barn.tell(c[0], c[3], c[4], 0), false);
            }
            if (c[1] == 1 && c[4] == 4) {
                ANSWERS.due(17, "below" + at, barn.below(c[0], c[2], c[3]), -1);
                ANSWERS.due(20, "unlike" + at, barn.unlike(c[0], c[2], c[3]), -1);
                ANSWERS.due(24, "judge" + at, barn.judge(c[0], c[2], c[3]), -1);
            }
            if (c[2] == 2 && c[3] == 0 && c[4] == 4) {
                ANSWERS.due(21, "ever" + at, barn.ever(c[0], c[1]), -1);
            }
        }
    }

    private static void everAndEdge() {
        CornBarn barn = Barns.withLands(PLAIN, "y 1;w 99 9;h 0 20 1;h 0 0 1;r 20", "y 2;w 99 2;h 0 20 1", "y 1");
        ANSWERS.due(21, "NONE", barn.ever(0, 0), 2);
        ANSWERS.due(21, "ALL", barn.ever(0, 1), 2);
        ANSWERS.due(21, "a rule that counts down", everOf("k:n"), -1);
        ANSWERS.due(21, "a rule that counts to 6", everOf("k:n<7?n;k:6"), 6);
        ANSWERS.due(21, "a rule of n 11", everOf("k:n<11?n;k:11"), 11);
        ANSWERS.due(21, "alike with 12 and 13 does not count", everOf("k:n<12?n;k:0"), -1);
        ANSWERS.due(21, "in the second season alone", everOf("k:s=1&n<5?n;k:9"), 5);
        ANSWERS.due(22, "10 less C above 0", barn.edge(0, 2, 0, 4), 10);
        ANSWERS.due(22, "10 less C above 4", barn.edge(0, 2, 0, 2), 6);
        ANSWERS.due(22, "nothing kept anyhow", barn.edge(0, 2, 0, 1), 0);
        ANSWERS.due(22, "the last season", barn.edge(0, 1, 0, 40), 0);
        ANSWERS.due(22, "none", barn.edge(2, 2, 0, 20), -1);
        CornBarn dear = Barns.withLands("y 2;w 30 2;h 0 9 1", "y 2;w 31 2;h 0 9 1");
        ANSWERS.due(22, "30", dear.edge(0, 2, 0, 9), 30);
        ANSWERS.due(22, "above 30", dear.edge(1, 2, 0, 9), -1);
        ANSWERS.due(22, "nobody eats", barn.edge(3, 2, 0, 20), 0);
        barn.law(0, 0);
        ANSWERS.due(22, "by the law", barn.edge(0, 2, 0, 4), 0);
    }

    private static int everOf(String rule) {
        CornBarn barn = Barns.withLands("y 2;w 1 1");
        Barns.feed(barn, rule);
        barn.rule();
        barn.by(0, 0);
        return barn.ever(0, 4);
    }

    private static void tablesAndNews() {
        CornBarn barn = Barns.withLands(PLAIN, CHANCE, "y 1;w 9 3");
        ANSWERS.due(24, "zeros at first", barn.judge(0, 2, 0), 2);
        ANSWERS.due(23, "tell", barn.tell(0, 0, 2, 1), true);
        ANSWERS.due(24, "one more right", barn.judge(0, 2, 0), 3);
        ANSWERS.due(24, "another season", barn.judge(0, 2, 1), -1);
        ANSWERS.due(23, "more than the amount", barn.tell(0, 0, 2, 3), false);
        ANSWERS.due(23, "-1", barn.tell(0, 0, 2, -1), false);
        ANSWERS.due(23, "21", barn.tell(0, 0, 40, 21), false);
        ANSWERS.due(23, "20", barn.tell(0, 0, 40, 20), true);
        ANSWERS.due(23, "amount 41", barn.tell(0, 0, 41, 1), false);
        ANSWERS.due(23, "season 2", barn.tell(0, 2, 2, 1), false);
        ANSWERS.due(23, "no land", barn.tell(3, 0, 2, 1), false);
        ANSWERS.due(24, "stays", barn.judge(0, 2, 0), 3);
        ANSWERS.due(24, "at none", barn.judge(2, 1, 0), -1);
        ANSWERS.due(24, "in the last season", barn.judge(0, 1, 0), 2);
        ANSWERS.due(23, "at the highest amount", barn.tell(2, 0, 40, 1), true);
        ANSWERS.due(24, "at the highest amount", barn.judge(2, 1, 0), 40);
        ANSWERS.due(25, "news", barn.news(1, 2, 0, 3), 3);
        ANSWERS.due(25, "one harvest: no news", barn.news(0, 2, 0, 4), 0);
        ANSWERS.due(25, "n 1", barn.news(1, 1, 0, 3), -1);
        ANSWERS.due(25, "n 12", barn.news(0, 12, 0, 4), 0);
        ANSWERS.due(25, "n 13", barn.news(1, 13, 0, 3), -1);
        barn.law(1, 0);
        ANSWERS.due(25, "nothing may be kept: no news", barn.news(1, 2, 0, 3), 0);
    }

    private static void afterSeasons() {
        CornBarn barn = Barns.withLands("y 1;w 10 1;w 6 1;w 3 1;h 0 1 2;h 0 3 1", PLAIN);
        // NONE keep nothing: after a season there is 1 (weight 2) or 3 (weight 1).
        ANSWERS.due(26, "all weights", barn.after(0, 0, 5, 0, 9, 1, 4, 0), 3);
        ANSWERS.due(26, "all weights of six seasons", barn.after(0, 0, 5, 0, 9, 6, 4, 0), 729);
        ANSWERS.due(26, "amount 0 at most", barn.after(0, 0, 5, 0, 9, 1, 0, 0), 0);
        ANSWERS.due(26, "amount 1 at most", barn.after(0, 0, 5, 0, 9, 1, 0, 1), 2);
        ANSWERS.due(26, "amount 3 at most", barn.after(0, 0, 5, 0, 9, 1, 0, 3), 3);
        ANSWERS.due(26, "price 6 or more", barn.after(0, 0, 5, 0, 9, 1, 2, 6), 2);
        ANSWERS.due(26, "price 7 or more", barn.after(0, 0, 5, 0, 9, 1, 2, 7), 0);
        ANSWERS.due(26, "price below 0 or more", barn.after(0, 0, 5, 0, 9, 1, 2, LOW), 3);
        ANSWERS.due(26, "sum of prices", barn.after(0, 0, 5, 0, 9, 1, 3, 0), 12);
        ANSWERS.due(26, "nothing kept", barn.after(0, 0, 5, 0, 9, 1, 1, 0), 3);
        ANSWERS.due(26, "no season: amount", barn.after(0, 0, 5, 0, 9, 0, 0, 8), 0);
        ANSWERS.due(26, "no season: amount", barn.after(0, 0, 5, 0, 9, 0, 0, 9), 1);
        ANSWERS.due(26, "no season: weight", barn.after(0, 0, 5, 0, 9, 0, 4, 9), 1);
        // ALL keep 2 of 4, so that 2 stand there in season 1, none is kept for season 0 as 4 come.
        ANSWERS.due(26, "ALL: amount", barn.after(1, 1, 2, 0, 4, 1, 0, 1), 0);
        ANSWERS.due(26, "ALL: amount", barn.after(1, 1, 2, 0, 4, 1, 0, 2), 1);
        ANSWERS.due(26, "ALL: price", barn.after(1, 1, 2, 0, 4, 1, 3, 0), 4);
        ANSWERS.due(26, "ALL: price behind two", barn.after(1, 1, 2, 0, 4, 2, 3, 0), 4);
        ANSWERS.due(26, "n 1 each time: nothing kept", barn.after(1, 1, 1, 0, 4, 1, 0, 0), 1);
        ANSWERS.due(26, "ONE sells nothing", barn.after(1, 3, 1, 0, 4, 1, 3, 0), 100);
        ANSWERS.due(26, "t -1", barn.after(0, 0, 5, 0, 9, -1, 4, 0), -1);
        ANSWERS.due(26, "t 7", barn.after(0, 0, 5, 0, 9, 7, 4, 0), -1);
        ANSWERS.due(26, "what -1", barn.after(0, 0, 5, 0, 9, 1, -1, 0), -1);
        ANSWERS.due(26, "what 5", barn.after(0, 0, 5, 0, 9, 1, 5, 0), -1);
    }

    private static void rows() {
        CornBarn barn = new CornBarn();
        for (int i = 1; i <= 40; i++) {
            ANSWERS.due(27, "row(1)", barn.row(1, i % 21), i);
        }
        ANSWERS.due(27, "a 41st", barn.row(1, 0), -1);
        ANSWERS.due(27, "of the other", barn.row(0, 20), 1);
        ANSWERS.due(27, "21", barn.row(0, 21), -1);
        ANSWERS.due(27, "-1", barn.row(0, -1), -1);
        ANSWERS.due(27, "row 2", barn.row(2, 1), -1);
        ANSWERS.due(27, "row -1", barn.row(-1, 1), -1);
        ANSWERS.due(28, "row 2", barn.clear(2), -1);
        ANSWERS.due(28, "row -1", barn.clear(-1), -1);
        ANSWERS.due(35, "counts", barn.count(2) * 100 + barn.count(3), 140);
        ANSWERS.due(28, "forty", barn.clear(1), 40);
        ANSWERS.due(28, "none", barn.clear(1), 0);
        ANSWERS.due(28, "the other stays", barn.count(2), 1);
        ANSWERS.due(27, "from the beginning", barn.row(1, 5), 1);
    }

    private static void runs() {
        CornBarn barn = Barns.withLands(PLAIN);
        for (int sacks : new int[] {4, 0, 2, 1}) {
            barn.row(0, sacks);
        }
        ANSWERS.due(30, "run", barn.run(0, 1, 2, 0), 4);
        int[][] want = {{4, 2, 2, 4, 1, 0, 0}, {2, 0, 2, 4, 1, 0, 0}, {2, 1, 1, 10, 2, 0, 0}, {2, 0, 2, 4, 1, 0, 0}};
        checkRan(30, barn, 0, want);
        barn.clear(0);
        ANSWERS.due(30, "the run stays", Barns.ran(barn, 0, 3, 0), 2);
        ANSWERS.due(30, "an empty row", barn.run(0, 1, 2, 20), 0);
        ANSWERS.due(32, "nothing ran", Barns.ran(barn, 0, 0, 0), THROWN);
        barn.row(0, 1);
        ANSWERS.due(30, "from before", barn.run(0, 0, 12, 20), 1);
        ANSWERS.due(32, "before and harvest", Barns.ran(barn, 0, 0, 0), 21);
        int[][] wrongs = {{1, 1, 2, 0}, {-1, 1, 2, 0}, {0, 5, 2, 0}, {0, -1, 2, 0}, {0, 1, 0, 0}, {0, 1, 13, 0},
            {0, 1, 2, -1}, {0, 1, 2, 21}, {HIGH, 1, 2, 0}, {0, HIGH, 2, 0}, {0, 1, HIGH, 0}, {0, 1, 2, HIGH},
            {LOW, 1, 2, 0}, {0, LOW, 2, 0}, {0, 1, LOW, 0}, {0, 1, 2, LOW}};
        for (int[] c : wrongs) {
            ANSWERS.due(30, "a wrong run", barn.run(c[0], c[1], c[2], c[3]), -1);
            ANSWERS.due(34, "a wrong blame", barn.blame(c[0], c[1], c[2], c[3]), -100000);
        }
        ANSWERS.due(32, "refused: the latest stays", Barns.ran(barn, 0, 0, 0), 21);
        for (int off : new int[] {-1, 1, 2, LOW, HIGH}) {
            ANSWERS.due(32, "no town " + off, Barns.ran(barn, off, 0, 0), THROWN);
            ANSWERS.due(32, "no season " + off, Barns.ran(barn, 0, off, 0), THROWN);
        }
        ANSWERS.due(32, "what 7", Barns.ran(barn, 0, 0, 7), THROWN);
        ANSWERS.due(32, "what -1", Barns.ran(barn, 0, 0, -1), THROWN);
    }

    private static void checkRan(int promise, CornBarn barn, int town, int[][] want) {
        for (int i = 0; i < want.length; i++) {
            for (int what = 0; what < 7; what++) {
                String call = "ran(" + town + ", " + i + ", " + what + ")";
                ANSWERS.due(promise, call, Barns.ran(barn, town, i, what), want[i][what]);
            }
        }
        ANSWERS.due(32, "too far", Barns.ran(barn, town, want.length, 0), THROWN);
    }

    private static void granaries() {
        CornBarn barn = Barns.withLands("y 1;w 10 1;w 6 1;w 3 1");
        for (int sacks : new int[] {5, 0, 0, 1}) {
            barn.row(0, sacks);
        }
        ANSWERS.due(29, "BUY above SELL", barn.granary(0, 4, 3, 2), false);
        ANSWERS.due(29, "BUY -1", barn.granary(0, -1, 3, 2), false);
        ANSWERS.due(29, "SELL 100", barn.granary(0, 4, 100, 2), false);
        ANSWERS.due(29, "room 21", barn.granary(0, 4, 4, 21), false);
        ANSWERS.due(29, "room -1", barn.granary(0, 4, 4, -1), false);
        ANSWERS.due(29, "no land", barn.granary(1, 4, 4, 1), false);
        ANSWERS.due(29, "zeros", barn.granary(0, 0, 0, 0), true);
        ANSWERS.due(30, "run", barn.run(0, 0, 1, 0), 4);
        ANSWERS.due(33, "none at first", barn.spent(), 0);
        ANSWERS.due(29, "granary", barn.granary(0, 4, 6, 20), true);
        ANSWERS.due(30, "run", barn.run(0, 0, 1, 0), 4);
        // 5 brought at 0, 0, 0, 3 each: 1 is left at 6. Then 0 brought: one sold at 10, for 6 is not above 6.
        int[][] want = {{5, 0, 1, 6, 2, 4, 0}, {0, 0, 1, 6, 2, 3, 0}, {0, 0, 1, 6, 2, 2, 0}, {1, 0, 1, 6, 2, 2, 0}};
        checkRan(29, barn, 0, want);
        ANSWERS.due(33, "0 and 0 and 3 paid, 10 and 10 got", barn.spent(), -17);
        ANSWERS.due(29, "equal ones", barn.granary(0, 99, 99, 2), true);
        ANSWERS.due(30, "run", barn.run(0, 0, 1, 0), 4);
        ANSWERS.due(29, "full", Barns.ran(barn, 0, 0, 5), 2);
        ANSWERS.due(29, "two fewer", Barns.ran(barn, 0, 0, 2), 3);
        ANSWERS.due(33, "at 0 and 0", barn.spent(), 0);
        ANSWERS.due(29, "all bought", barn.granary(0, 99, 99, 20), true);
        barn.run(0, 0, 1, 0);
        ANSWERS.due(29, "nothing brought any more", Barns.ran(barn, 0, 0, 2), 0);
        ANSWERS.due(29, "six", Barns.ran(barn, 0, 3, 5), 6);
        ANSWERS.due(33, "0, 0, 3, 6 in all but the order, and 6", barn.spent(), 0 + 0 + 0 + 3 + 6 + 6);
        ANSWERS.due(34, "ONE without, NONE with", barn.blame(0, 3, 1, 0), 9 - 12);
        ANSWERS.due(30, "ONE has none", barn.run(0, 3, 1, 0), 4);
        checkRan(29, barn, 0, new int[][] {{5, 0, 2, 6, 1, 0, 0}, {0, 0, 0, 100, 3, 0, 0}, {0, 0, 0, 100, 3, 0, 0},
            {1, 0, 1, 10, 2, 0, 0}});
        ANSWERS.due(33, "ONE", barn.spent(), 0);
        ANSWERS.due(34, "the latest run stays", Barns.ran(barn, 0, 0, 2), 2);
    }

    private static void blames() {
        CornBarn barn = Barns.withLands(PLAIN);
        barn.row(0, 4);
        barn.row(0, 0);
        ANSWERS.due(34, "two eat, and two; not three and none", barn.blame(0, 1, 2, 0), -1);
        ANSWERS.due(34, "of NONE", barn.blame(0, 0, 2, 0), 0);
        ANSWERS.due(34, "no run by it", Barns.ran(barn, 0, 0, 0), THROWN);
        ANSWERS.due(33, "nor spent", barn.spent(), 0);
    }

    private static void longestRows() {
        CornBarn barn = Barns.withLands("y 1;w 10 2;w 4 1", "y 1;w 9 2");
        for (int i = 0; i < 40; i++) {
            barn.row(0, i % 2);
            barn.row(1, 1);
        }
        ANSWERS.due(30, "forty", barn.run(0, 1, 2, 0), 40);
        ANSWERS.due(32, "the fortieth", Barns.ran(barn, 0, 39, 0), 1);
        ANSWERS.due(32, "no more", Barns.ran(barn, 0, 40, 0), THROWN);
        ANSWERS.due(34, "forty", barn.blame(0, 0, 2, 0), 0);
        ANSWERS.due(31, "forty", barn.towns(0, 1, 0, 1, 0, 0, 99), 40);
        ANSWERS.due(32, "the fortieth of the other", Barns.ran(barn, 1, 39, 0), 1);
        ANSWERS.due(32, "no more", Barns.ran(barn, 1, 40, 0), THROWN);
    }

    private static void twoTowns() {
        CornBarn barn = Barns.withLands("y 1;w 10 1;w 6 1;w 3 1", "y 1;w 12 1;w 8 1", "y 2;w 9 1", PLAIN);
        for (int sacks : new int[] {3, 1, 0, 9}) {
            barn.row(0, sacks);
        }
        for (int sacks : new int[] {0, 1, 2}) {
            barn.row(1, sacks);
        }
        ANSWERS.due(31, "towns", barn.towns(0, 1, 0, 1, 0, 0, 2), 3);
        // 12 is above 3 by more than 2, then 8 above 6 by 2 alone. 1 and 1: 8 is not above 10. 0 and 2: 10 is above 8 by 2.
        checkRan(31, barn, 0, new int[][] {{3, 0, 2, 3, 1, 0, 1}, {1, 0, 1, 6, 2, 0, 0}, {0, 0, 0, 10, 3, 0, 0}});
        checkRan(31, barn, 1, new int[][] {{0, 0, 1, 8, 1, 0, -1}, {1, 0, 1, 8, 1, 0, 0}, {2, 0, 2, 0, 0, 0, 0}});
        ANSWERS.due(31, "a shorter road", barn.towns(0, 1, 0, 1, 0, 0, 1), 3);
        ANSWERS.due(31, "two away", Barns.ran(barn, 0, 0, 6), 2);
        ANSWERS.due(31, "one to it", Barns.ran(barn, 0, 2, 6), -1);
        ANSWERS.due(31, "the road the other way", barn.towns(1, 0, 0, 1, 0, 3, 1), 3);
        ANSWERS.due(31, "to town 0", Barns.ran(barn, 0, 0, 0) * 10 + Barns.ran(barn, 1, 0, 0), 33);
        ANSWERS.due(31, "before", barn.towns(0, 1, 0, 1, 2, 20, 99), 3);
        ANSWERS.due(31, "its amounts", Barns.ran(barn, 0, 0, 0) * 100 + Barns.ran(barn, 1, 0, 0), 520);
        barn.granary(0, 99, 99, 20);
        ANSWERS.due(31, "no granary", barn.towns(0, 1, 0, 1, 2, 20, 99), 3);
        ANSWERS.due(31, "no granary", Barns.ran(barn, 0, 0, 5), 0);
        ANSWERS.due(33, "towns spend nothing", barn.spent(), 0);
        ANSWERS.due(30, "run", barn.run(0, 0, 1, 0), 4);
        ANSWERS.due(33, "a run spends", barn.spent() > 0, true);
        ANSWERS.due(31, "towns again", barn.towns(0, 1, 4, 12, 0, 0, 0), 3);
        ANSWERS.due(33, "towns spend nothing", barn.spent(), 0);
        int[][] wrongs = {{0, 0, 0, 1, 0, 0, 2}, {0, 2, 0, 1, 0, 0, 2}, {0, 1, 3, 1, 0, 0, 2}, {0, 1, 5, 1, 0, 0, 2},
            {0, 1, -1, 1, 0, 0, 2}, {0, 1, 0, 0, 0, 0, 2}, {0, 1, 0, 13, 0, 0, 2}, {0, 1, 0, 1, -1, 0, 2},
            {0, 1, 0, 1, 21, 0, 2}, {0, 1, 0, 1, 0, -1, 2}, {0, 1, 0, 1, 0, 21, 2}, {0, 1, 0, 1, 0, 0, -1},
            {0, 1, 0, 1, 0, 0, 100}, {-1, 1, 0, 1, 0, 0, 2}, {0, 4, 0, 1, 0, 0, 2}, {HIGH, LOW, 0, 1, 0, 0, 2}};
        for (int[] c : wrongs) {
            ANSWERS.due(31, "wrong towns", barn.towns(c[0], c[1], c[2], c[3], c[4], c[5], c[6]), -1);
        }
        ANSWERS.due(31, "two of two seasons", barn.towns(2, 3, 1, 2, 0, 0, 0), 3);
        ANSWERS.due(32, "both towns", Barns.ran(barn, 1, 2, 0) != THROWN, true);
        ANSWERS.due(32, "no third", Barns.ran(barn, 2, 0, 0), THROWN);
        ANSWERS.due(32, "by the shorter row", Barns.ran(barn, 0, 3, 0), THROWN);
    }

    private static void counts() {
        CornBarn barn = Barns.withLands(PLAIN, CHANCE);
        Barns.feed(barn, "k:1");
        barn.rule();
        barn.row(0, 1);
        barn.row(0, 1);
        barn.row(0, 1);
        barn.row(1, 1);
        barn.row(1, 1);
        barn.row(1, 1);
        barn.row(1, 1);
        Barns.feed(barn, "12345");
        int[] want = {2, 1, 3, 4, 5};
        for (int what = 0; what < 5; what++) {
            ANSWERS.due(35, "count(" + what + ")", barn.count(what), want[what]);
        }
        for (int off : new int[] {-1, 5, LOW, HIGH}) {
            ANSWERS.due(35, "count(" + off + ")", barn.count(off), -1);
        }
    }

    public static void main(String[] args) {
        newObject();
        tape();
        landFaults();
        ruleFaults();
        landsAndRules();
        tellings();
        eatersAndMice();
        lawAndRule();
        worths();
        keepersOfAPlainLand();
        wrongKeepers();
        everAndEdge();
        tablesAndNews();
        afterSeasons();
        rows();
        runs();
        granaries();
        blames();
        longestRows();
        twoTowns();
        counts();
        ANSWERS.end();
    }
}
