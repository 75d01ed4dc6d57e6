/**
 * The edges of texts: the tape, lands, rules and what a rule is worth. One method for each sentence of the document
 * that names such an edge.
 */
public final class EdgeTextTest {
    private static final int TEXTS = 6;
    private static final int BLANK = ' ';

    private static final Answers ANSWERS = new Answers();

    private static void faults(int sort, Object... textsAndFaults) {
        for (int i = 0; i + 1 < textsAndFaults.length; i += 2) {
            String text = (String) textsAndFaults[i];
            ANSWERS.due("fault(" + sort + ") of \"" + text + "\"", Barns.faultOf(sort, text),
                (Integer) textsAndFaults[i + 1]);
        }
    }

    private static void worths(Object... textsAndWorths) {
        for (int i = 0; i + 1 < textsAndWorths.length; i += 2) {
            String text = (String) textsAndWorths[i];
            ANSWERS.due("worth of \"" + text + "\"", Barns.worthOf(text), (Integer) textsAndWorths[i + 1]);
        }
    }

    // What it is

    private static void fiveHundredAndTwelveCalls() {
        ANSWERS.sentence(1, "An object is used for at most 512 calls after it has been made");
        CornBarn barn = new CornBarn();
        for (int i = 0; i < 100; i++) {
            barn.feed(0x79203100, 0, 0, 0, 0);
            barn.land();
            barn.feed(0x6b3a3500, 0, 0, 0, 0);
            barn.rule();
            barn.end(0);
        }
        for (int i = 0; i < 10; i++) {
            barn.row(0, i);
        }
        ANSWERS.due("the 511th call: six lands", barn.count(0), TEXTS);
        ANSWERS.due("the 512th call: the sixth rule", Barns.worth(barn, 5, 0, 0, 0, 0, 0), 5);
    }

    // Promise 1

    private static void newObject() {
        ANSWERS.sentence(1, "No LANDS");
        CornBarn other = Barns.withRule("y 1;w 9 9", "k:1");
        Barns.rows(other, 0, 1, 2);
        other.run(0, 1, 2, 0);
        Barns.feed(other, "abc");
        CornBarn barn = new CornBarn();
        for (int what = 0; what < 5; what++) {
            ANSWERS.due("count(" + what + ")", barn.count(what), 0);
        }
        ANSWERS.due("told of land 0", barn.told(0, 0), -1);
        ANSWERS.due("law of land 0", barn.law(0, 1), false);
        ANSWERS.due("run of land 0", barn.run(0, 0, 1, 0), -1);
        ANSWERS.due("blame of land 0", barn.blame(0, 0, 1, 0), -100000);
        ANSWERS.due("harvest of land 0", Barns.harvest(barn, 0, 0, 0, 0), Barns.THROWN);
        ANSWERS.due("worth of rule 0", Barns.worth(barn, 0, 1, 1, 1, 1, 1), Barns.THROWN);
        ANSWERS.due("nothing ran", Barns.ran(barn, 0, 0, 0), Barns.THROWN);
        ANSWERS.due("nothing spent", barn.spent(), 0);
        ANSWERS.due("no harvests in row 0", barn.clear(0), 0);
        ANSWERS.due("no harvests in row 1", barn.clear(1), 0);
    }

    // Promise 2

    private static void feedUpTo240() {
        ANSWERS.sentence(2, "NONE: more than 240");
        CornBarn barn = new CornBarn();
        for (int i = 1; i <= 12; i++) {
            ANSWERS.due("twenty more", barn.feed(-1, -1, -1, -1, -1), 20 * i);
        }
        ANSWERS.due("a 241st", barn.feed(0, 0, 0x00000100, 0, 0), -1);
        ANSWERS.due("bytes behind a refused one", barn.count(4), 240);
        ANSWERS.due("zeros alone are not more", barn.feed(0, 0, 0, 0, 0), 240);
        barn.end(221);
        ANSWERS.due("twenty to 221", barn.feed(-1, -1, -1, -1, -1), -1);
        ANSWERS.due("none of a refused call is taken", barn.count(4), 221);
        ANSWERS.due("nineteen to 221", barn.feed(-1, -1, -1, -1, 0x7f007f7f), 240);
    }

    private static void feedLeavesZerosOut() {
        ANSWERS.sentence(2, "of each number the highest first; bytes of 0 are left out");
        CornBarn barn = new CornBarn();
        ANSWERS.due("nothing but zeros", barn.feed(0, 0, 0, 0, 0), 0);
        ANSWERS.due("zeros between", barn.feed(0x6b000000, 0x003a0000, 0x00003100, 0x00000032, 0x33003400), 6);
        ANSWERS.due("rule()", barn.rule(), 0);
        ANSWERS.due("the order of k:1234", Barns.worth(barn, 0, 0, 0, 0, 0, 0), 1234);
        ANSWERS.due("a byte of 255 is one", barn.feed(0x000000ff, 0, 0, 0, 0), 1);
        ANSWERS.due("a byte of 128 is one", barn.feed(0x80000000, 0, 0, 0, 0), 2);
        barn.end(0);
        ANSWERS.due("all twenty of them", barn.feed(0x6b3a3120, 0x20202020, 0x20202020, 0x20202020, 0x20202b32), 20);
        ANSWERS.due("rule()", barn.rule(), 1);
        ANSWERS.due("the first and the last", Barns.worth(barn, 1, 0, 0, 0, 0, 0), 3);
    }

    // Promise 3

    private static void endWithinTheTape() {
        ANSWERS.sentence(3, "False: n");
        CornBarn barn = new CornBarn();
        ANSWERS.due("end(0) of nothing", barn.end(0), true);
        ANSWERS.due("end(1) of nothing", barn.end(1), false);
        Barns.feed(barn, "y 1;w");
        ANSWERS.due("one too many", barn.end(6), false);
        ANSWERS.due("-1", barn.end(-1), false);
        ANSWERS.due("the lowest number", barn.end(Barns.LOW), false);
        ANSWERS.due("the highest number", barn.end(Barns.HIGH), false);
        ANSWERS.due("bytes behind refused ones", barn.count(4), 5);
        ANSWERS.due("all of them", barn.end(5), true);
        ANSWERS.due("bytes", barn.count(4), 5);
        ANSWERS.due("three", barn.end(3), true);
        ANSWERS.due("four, now too many", barn.end(4), false);
    }

    private static void endLeavesTheFirst() {
        ANSWERS.sentence(3, "The TAPE has its first n bytes alone");
        CornBarn barn = new CornBarn();
        Barns.feed(barn, "k:12;;;");
        barn.end(3);
        ANSWERS.due("more behind the first three", Barns.feed(barn, "9"), 4);
        ANSWERS.due("rule()", barn.rule(), 0);
        ANSWERS.due("k:19", Barns.worth(barn, 0, 0, 0, 0, 0, 0), 19);
    }

    // Promise 4: sorts, and lands

    private static void sortsOfFaults() {
        ANSWERS.sentence(4, "-2: no such sort");
        CornBarn barn = new CornBarn();
        ANSWERS.due("fault(0) of nothing", barn.fault(0), 0);
        ANSWERS.due("fault(1) of nothing", barn.fault(1), 0);
        for (int sort : new int[] {-1, 2, Barns.LOW, Barns.HIGH}) {
            ANSWERS.due("fault(" + sort + ")", barn.fault(sort), -2);
        }
    }

    private static void seasonsOfAYear() {
        ANSWERS.sentence(4, "first y and how many SEASONS (1 .. 4, numbered 0 ..) a year has, then any of");
        faults(0, "y 0", 2, "y 1", -1, "y 4", -1, "y 5", 2, "y 9", 2, "y 00", 3, "y 01", -1, "y 04", -1, "y 05", 3,
            "y 10", 3, "w 1 1;y 1", 0, "c 1", 0, ";y 1", 0);
        for (int sign = 1; sign < 256; sign++) {
            if (sign != BLANK) {
                faults(0, "" + (char) sign, sign == 'y' ? 1 : 0);
                faults(0, "y 1;" + (char) sign, "whcmr".indexOf(sign) >= 0 ? 5 : 4);
            }
        }
    }

    private static void payersAndTheirNumber() {
        ANSWERS.sentence(4, "Q EATERS, 1 .. 9, who pay up to P, 1 .. 99, for a sack");
        faults(0, "y 1;w 0 1", 6, "y 1;w 00 1", 7, "y 1;w 1 1", -1, "y 1;w 01 1", -1, "y 1;w 99 1", -1, "y 1;w 9 9", -1,
            "y 1;w 1 0", 8, "y 1;w 1 00", 9, "y 1;w 1 9", -1, "y 1;w 1 09", -1, "y 1;w 1 10", 9, "y 1;w 1 99", 9);
    }

    private static void twentyOfThese() {
        ANSWERS.sentence(4, "20 of these at most; the letter of a 21st w");
        String twenty = "y 1" + ";w 1 1".repeat(20);
        faults(0, twenty, -1, twenty + ";w", 124, twenty + ";w 1 1", 124, twenty + ";  w 1 1", 126,
            twenty + ";c 1;m 2;r 3;h 0 1 1", -1, twenty + ";c 1;w", 128, "y 1" + ";w 1 1".repeat(19) + ";c 1;w 1 1", -1);
    }

    private static void seasonOfAHarvest() {
        ANSWERS.sentence(4, "in SEASON S a HARVEST");
        for (int seasons = 1; seasons <= 4; seasons++) {
            for (int s = 0; s < 10; s++) {
                faults(0, "y " + seasons + ";h " + s + " 1 1", s < seasons ? -1 : 6);
                faults(0, "y " + seasons + ";h 0" + s + " 1 1", s < seasons ? -1 : 7);
            }
        }
        faults(0, "y 4;h 10 1 1", 7);
    }

    private static void sacksOfAHarvest() {
        ANSWERS.sentence(4, "of H sacks, 0 .. 20, with weight W, 1 .. 9");
        faults(0, "y 1;h 0 0 1", -1, "y 1;h 0 20 1", -1, "y 1;h 0 21 1", 9, "y 1;h 0 30 1", 9, "y 1;h 0 00 1", -1,
            "y 1;h 0 1 0", 10, "y 1;h 0 1 00", 11, "y 1;h 0 1 1", -1, "y 1;h 0 1 9", -1, "y 1;h 0 1 09", -1,
            "y 1;h 0 1 10", 11, "y 1;h 0 1 12", 11);
    }

    private static void fourHarvestsOfASeason() {
        ANSWERS.sentence(4, "at most four of one SEASON; an S that has four HARVESTS is wrong at its last digit");
        String four = "y 2" + ";h 0 1 1".repeat(4);
        faults(0, four, -1, four + ";h 0", 38, four + ";h 0 1 1", 38, four + ";h 00 1 1", 39, four + ";h 1 1 1", -1,
            four + ";h 1 1 1".repeat(4), -1, four + ";h 1 1 1".repeat(4) + ";h 1 1 1", 70,
            "y 4" + ";h 0 0 3".repeat(4) + ";h 1 0 3".repeat(4) + ";h 2 0 3".repeat(4) + ";h 3 0 3".repeat(4), -1,
            "y 1;h 0 1 1;h 0 1 1;c 1;h 0 1 1;w 1 1;h 0 1 1;h 0 1 1", 48);
    }

    private static void weightsOfASeason() {
        ANSWERS.sentence(4, "weights of 12 at most together; a W with which weights were above 12 is wrong at its last digit");
        faults(0, "y 1;h 0 1 9;h 0 1 3", -1, "y 1;h 0 1 9;h 0 1 4", 18, "y 1;h 0 1 9;h 0 1 04", 19,
            "y 1;h 0 1 6;h 0 1 6", -1, "y 1;h 0 1 6;h 0 1 7", 18, "y 1;h 0 1 4;h 0 1 4;h 0 1 4", -1,
            "y 1;h 0 1 4;h 0 1 4;h 0 1 5", 26, "y 1;h 0 1 6;h 0 1 6;h 0 1 1", 26, "y 1;h 0 1 6;h 0 1 6;h 0 1", 25,
            "y 2;h 0 1 9;h 1 1 9;h 0 1 3;h 1 1 3", -1, "y 2;h 0 1 9;h 1 1 9;h 0 1 3;h 1 1 4", 34);
    }

    private static void costMiceAndRoom() {
        ANSWERS.sentence(4, "C, 0 .. 30; M, 2 .. 20, or 0; R, 0 .. 20");
        faults(0, "y 1;c 0", -1, "y 1;c 30", -1, "y 1;c 31", 7, "y 1;c 99", 7, "y 1;m 0", -1, "y 1;m 00", -1, "y 1;m 1", 6,
            "y 1;m 01", 7, "y 1;m 2", -1, "y 1;m 02", -1, "y 1;m 10", -1, "y 1;m 20", -1, "y 1;m 21", 7, "y 1;r 0", -1,
            "y 1;r 20", -1, "y 1;r 21", 7);
    }

    private static void firstAndLatest() {
        ANSWERS.sentence(7, "0 at first, the latest counts; likewise; 20 at first, likewise");
        CornBarn barn = Barns.withLands("y 1", "y 1;c 30;m 20;r 0", "y 1;c 30;m 20;r 0;c 0;m 0;r 20");
        int[][] due = {{0, 0, 20}, {30, 20, 0}, {0, 0, 20}};
        for (int land = 0; land < 3; land++) {
            for (int what = 2; what < 5; what++) {
                ANSWERS.due("told(" + land + ", " + what + ")", barn.told(land, what), due[land][what - 2]);
            }
        }
        CornBarn later = Barns.withLands("y 1;w 9 9;c 1;m 2;r 3;h 0 4 9", "y 1");
        int[] bare = {1, 0, 0, 0, 20, 20, -1, 0};
        for (int what = 0; what < bare.length; what++) {
            ANSWERS.due("told(1, " + what + ") behind a full one", later.told(1, what), bare[what]);
        }
        ANSWERS.due("no harvest of an earlier text", Barns.harvest(later, 1, 0, 0, 1), 1);
    }

    private static void oneOrTwoDigits() {
        ANSWERS.sentence(4, "Numbers of one or two digits; a third digit");
        faults(0, "y 001", 3, "y 011", 4, "y 1;w 010 1", 8, "y 1;w 100 1", 8, "y 1;w 1 001", 9, "y 1;w 1 011", 10, "y 1;c 000", 8,
            "y 1;m 020", 8, "y 1;r 200", 8, "y 1;h 000 1 1", 8, "y 1;h 0 200 1", 10, "y 1;h 0 1 001", 11, "y 1;h 0 1 012", 12, "y", 1, "y ", 2,
            "y x", 2, "y -1", 2, "y 1;w 1 x", 8);
    }

    private static void wrongAtTheLastDigit() {
        ANSWERS.sentence(4, "a number out of bounds is wrong at its last digit");
        faults(0, "y 5;w 1 1", 2, "y 51", 3, "y 51;w 1 1", 3, "y  51", 4, "y 9;w 0 0;z", 2, "y 1;c 31;c 1", 7, "y 1;c  99 ", 8,
            "y 512", 3);
    }

    private static void blanksInLands() {
        ANSWERS.sentence(4, "blanks (32), one or more, ahead of each number, and as many as one likes ahead of a letter, "
            + "of a ; and of the end");
        faults(0, "y1", 1, "y 1;w1 1", 5, "y 1;w 1,1", 7, "y 1;h0 1 1", 5, "y 1;h 0 1 1", -1, "y 1;c1", 5, "y 1;m2", 5,
            "y 1;r1", 5, "y   1", -1, "y 1;w   1   1", -1, "y 1;h   0   1   1", -1, "   y 1", -1, "y 1;   w 1 1", -1,
            "y 1   ;w 1 1", -1, "y 1   ", -1, "y 1 ; c 1 ; m 2 ; r 3 ", -1, "y 1;w 1 1 1", 10, "y 1 1", 4, "y 1w 1 1", 3,
            "y 1 w 1 1", 4);
        for (int sign : new int[] {9, 10, 13, 31, 33, 160}) {
            faults(0, "y" + (char) sign + "1", 1, (char) sign + "y 1", 0, "y 1" + (char) sign, 3,
                "y 1;" + (char) sign + "c 1", 4);
        }
    }

    private static void landsThatEndTooEarly() {
        ANSWERS.sentence(4, "the first byte at which no LAND can go on (the length, if it ends too early)");
        String text = " y 2 ;w 15 3;h 1 20 9; c 30;m 20;r 5 ";
        // Where a text may end: behind a statement's last number, and behind blanks that follow it.
        int[] ends = {4, 5, 12, 21, 26, 27, 31, 32, 36, 37};
        for (int length = 0; length <= text.length(); length++) {
            boolean mayEnd = false;
            for (int end : ends) {
                mayEnd |= end == length;
            }
            faults(0, text.substring(0, length), mayEnd ? -1 : length);
        }
        faults(0, "y 1;", 4, "y 1; ", 5, "y 1;;", 4, "y 1;;c 1", 4, "y 1;c 1;", 8, " ", 1, "y 1;x;y", 4, "x y 0", 0);
    }

    private static void aSecondYear() {
        ANSWERS.sentence(4, "a second y");
        faults(0, "y 1;y 1", 4, "y 1;y", 4, "y 1; y 2", 5, "y 1;w 1 1;y 1", 10, "yy 1", 1);
    }

    private static void aSeasonWithoutAHarvest() {
        ANSWERS.sentence(8, "A SEASON without a HARVEST has one of 0 with weight 1");
        CornBarn barn = Barns.withLands("y 4;h 0 20 9;h 0 20 3;h 2 20 9", "y 4;h 3 7 8", "y 1");
        int[][] none = {{0, 1}, {0, 3}, {1, 0}, {1, 1}, {1, 2}, {2, 0}};
        for (int[] at : none) {
            ANSWERS.due("its sacks", Barns.harvest(barn, at[0], at[1], 0, 0), 0);
            ANSWERS.due("its weight", Barns.harvest(barn, at[0], at[1], 0, 1), 1);
            ANSWERS.due("one alone", Barns.harvest(barn, at[0], at[1], 1, 0), Barns.THROWN);
        }
        ANSWERS.due("a told one has no other", Barns.harvest(barn, 0, 2, 1, 0), Barns.THROWN);
        ANSWERS.due("a told one stays", Barns.harvest(barn, 1, 3, 0, 0), 7);
    }

    // Promises 5 and 6

    private static void sixLands() {
        ANSWERS.sentence(5, "LANDS (6 at most); NONE: a FAULT, there are six");
        CornBarn barn = new CornBarn();
        ANSWERS.due("land() of nothing", barn.land(), -1);
        for (int i = 0; i < TEXTS; i++) {
            Barns.feed(barn, "y 5");
            ANSWERS.due("land() of a fault", barn.land(), -1);
            ANSWERS.due("its tape stays", barn.count(4), 3);
            barn.end(0);
            Barns.feed(barn, "y " + (i % 4 + 1));
            ANSWERS.due("land()", barn.land(), i);
            ANSWERS.due("its tape is empty", barn.count(4), 0);
        }
        Barns.feed(barn, "y 1");
        ANSWERS.due("no fault", barn.fault(0), -1);
        ANSWERS.due("a seventh", barn.land(), -1);
        ANSWERS.due("its tape stays", barn.count(4), 3);
        ANSWERS.due("lands", barn.count(0), TEXTS);
        for (int i = 0; i < TEXTS; i++) {
            ANSWERS.due("seasons of land " + i, barn.told(i, 0), i % 4 + 1);
        }
        ANSWERS.due("seasons of land 6", barn.told(TEXTS, 0), -1);
        barn.end(0);
        ANSWERS.due("rules are counted for themselves", Barns.tellRule(barn, "k:1"), 0);
    }

    private static void sixRules() {
        ANSWERS.sentence(6, "RULES (6 at most); NONE: a FAULT, there are six");
        CornBarn barn = new CornBarn();
        ANSWERS.due("rule() of nothing", barn.rule(), -1);
        for (int i = 0; i < TEXTS; i++) {
            Barns.feed(barn, "k:");
            ANSWERS.due("rule() of a fault", barn.rule(), -1);
            ANSWERS.due("its tape stays", barn.count(4), 2);
            Barns.feed(barn, "" + i);
            ANSWERS.due("rule()", barn.rule(), i);
            ANSWERS.due("its tape is empty", barn.count(4), 0);
        }
        Barns.feed(barn, "k:9");
        ANSWERS.due("no fault", barn.fault(1), -1);
        ANSWERS.due("a seventh", barn.rule(), -1);
        ANSWERS.due("its tape stays", barn.count(4), 3);
        ANSWERS.due("rules", barn.count(1), TEXTS);
        for (int i = 0; i < TEXTS; i++) {
            ANSWERS.due("worth of rule " + i, Barns.worth(barn, i, 0, 0, 0, 0, 0), i);
        }
        ANSWERS.due("lands are counted for themselves", Barns.tellLand(barn, "y 1"), 0);
    }

    private static void noLandIsARule() {
        ANSWERS.sentence(5, "The TAPE is a LAND");
        CornBarn barn = new CornBarn();
        Barns.feed(barn, "k:1");
        ANSWERS.due("land() of a rule", barn.land(), -1);
        ANSWERS.due("rule() of it, still there", barn.rule(), 0);
        ANSWERS.sentence(6, "The TAPE is a RULE");
        Barns.feed(barn, "y 1");
        ANSWERS.due("rule() of a land", barn.rule(), -1);
        ANSWERS.due("land() of it, still there", barn.land(), 0);
    }

    // Promise 4: rules

    private static void clausesOneAtLeast() {
        ANSWERS.sentence(4, "CLAUSES with ; between, one at least: k, : , perhaps CONDITION ?, then SUM");
        faults(1, "", 0, "k", 1, "k:", 2, "k:1", -1, "k:1;", 4, "k:1;k", 5, "k:1;k:", 6, "k:1;k:2", -1, ";k:1", 0, "k:1;;k:2", 4,
            "k;1", 1, "kk:1", 1, ":1", 0, "1", 0, "k:?1", 2, "k:1?2", 3, "k:1=1?", 6, "k:1=1?2", -1, "k:1=1", 5, "k:1=1;k:2", 5,
            "k:1=1?2=2?3", 7, "k:1=1?(2)", 6, "k:1=1?!2", 6, "k:;k:1", 2, "k:1=1?;", 6);
        for (int sign = 1; sign < 256; sign++) {
            if (sign != BLANK) {
                faults(1, "" + (char) sign, sign == 'k' ? 1 : 0);
                faults(1, "k" + (char) sign, sign == ':' ? 2 : 1);
            }
        }
    }

    private static void everyAtom() {
        ANSWERS.sentence(4, "ATOM: a number (1 to 4 digits), a letter (a s n p r), [ SUM ]");
        for (int sign = 1; sign < 256; sign++) {
            if (sign != BLANK) {
                boolean whole = "asnpr0123456789".indexOf(sign) >= 0;
                boolean opens = sign == '[' || sign == '(' || sign == '!';
                faults(1, "k:" + (char) sign, whole ? -1 : opens ? 3 : 2);
                faults(1, "k:1+" + (char) sign, whole ? -1 : sign == '[' ? 5 : 4);
            }
        }
        faults(1, "k:[]", 3, "k:[1", 4, "k:[1]", -1, "k:[1]]", 5, "k:[1=1]?1", 4, "k:[k]", 3);
    }

    private static void digitsOfARule() {
        ANSWERS.sentence(4, "a number (1 to 4 digits); a fifth digit");
        faults(1, "k:0", -1, "k:9999", -1, "k:0000", -1, "k:00000", 6, "k:12345", 6, "k:123456", 6, "k:a+12345", 8,
            "k:12345=1?1", 6, "k:1=12345?1", 8, "k:1=1?12345", 10, "k:[12345]", 7);
        ANSWERS.due("worth of four digits", Barns.worthOf("k:9999"), 9999);
        ANSWERS.due("worth of nine's fourth digit", Barns.worthOf("k:0009"), 9);
    }

    private static void conditionsBegunByASign() {
        ANSWERS.sentence(4, "A CLAUSE that goes on with ! or ( behind its : has a CONDITION");
        faults(1, "k:(", 3, "k:(1", 4, "k:(1)", 4, "k:(1=1", 6, "k:(1=1)", 7, "k:(1=1)?", 8, "k:(1=1)?1", -1, "k:(1=1);k:1", 7,
            "k:(1+1)", 6, "k:(1=1)=1", 7, "k:!", 3, "k:!1", 4, "k:!1=1", 6, "k:!1=1?1", -1, "k:!1+1;k:1", 6, "k: (1)", 5,
            "k: ! 1;", 6, "k:()", 3, "k:(1=1))?1", 7, "k:((1=1)?1", 8);
    }

    private static void blanksInRules() {
        ANSWERS.sentence(4, "Blanks may stand between all these, not within numbers");
        faults(1, "k : ( a = 1 ) | ! s < 2 & [ n ] > 3 ? p + r - 4 * 5 / 6 ; k : 7", -1, "k:1 2", 4, "k:1 2;k:3", 4,
            "k:a s", 4, "k:1 =1 ?1", -1, "k:123 4", 6, "k:1 ;k:2", -1, "k:1=1 ? ", 8, "k  ", 3, "k:  ", 4);
        for (int sign : new int[] {9, 10, 13, 31, 160}) {
            faults(1, "k:1+" + (char) sign + "1", 4);
        }
    }

    private static void sixWithinOneAnother() {
        ANSWERS.sentence(4, "at most six of ( [ ! within one another; a seventh of these");
        faults(1, "k:" + "[".repeat(6) + "1" + "]".repeat(6), -1, "k:" + "[".repeat(7), 8, "k:" + "[".repeat(6), 8,
            "k:" + "(".repeat(6) + "1=1" + ")".repeat(6) + "?1", -1, "k:" + "(".repeat(7), 8, "k:" + "(".repeat(6), 8,
            "k:" + "!".repeat(6) + "1=1?1", -1, "k:" + "!".repeat(7), 8, "k:" + "!".repeat(6), 8,
            "k:!(!(!([", 8, "k:!(!(!(!", 8, "k:!(!(!((", 8, "k:!(!(!(1=1)))?1", -1, "k:(!(!([1]=1)))?1", -1,
            "k:(!(!([[1]]=1)))?1", 8, "k:(!(([[1]]=1)))?1", -1, "k:(!(([[[1", 8, "k:!!!!!![1]=1?1", 8, "k:!!!!!!1=[1]?1", 10,
            "k:!!!!![1]=[2]?1", -1, "k:((((((1=[1", 10);
    }

    private static void besideOneAnother() {
        ANSWERS.sentence(4, "within one another, not beside one another");
        String six = "[[[[[[1]]]]]]";
        faults(1, "k:" + six + "+" + six + "*" + six, -1, "k:" + six + "=" + six + "?" + six + ";k:" + six, -1,
            "k:((((((1=1))))))|((((((1=1))))))&((((((1=1))))))?" + six, -1, "k:!!!!!!1=1&!!!!!!1=1|!!!!!!1=1?1", -1,
            "k:!!!!!!1=1&" + six + "=1?1", -1, "k:[1]+[1]+[1]+[1]+[1]+[1]+[1]+[1]", -1, "k:1=1&" + "(".repeat(7), 12,
            "k:1=1?" + "[".repeat(7), 12, "k:1=1?1;k:" + "[".repeat(7), 16, "k:1=" + "[".repeat(7), 10,
            "k:1+" + "[".repeat(7), 10, "k:1*" + "[".repeat(7), 10);
    }

    private static void rulesThatEndTooEarly() {
        ANSWERS.sentence(4, "the first byte at which no RULE can go on (the length, if it ends too early)");
        String text = "k:!(a=12|s<[2+3])&n>1?p*4;k:r/2-1";
        // Where a text may end: in a clause's own sum, behind an atom.
        int[] ends = {23, 25, 29, 31, 33};
        for (int length = 0; length <= text.length(); length++) {
            boolean mayEnd = false;
            for (int end : ends) {
                mayEnd |= end == length;
            }
            faults(1, text.substring(0, length), mayEnd ? -1 : length);
        }
        faults(1, "k:1+", 4, "k:1-", 4, "k:1*", 4, "k:1/", 4, "k:1=", 4, "k:1=1&", 6, "k:1=1|", 6, "k:1+;", 4, "k:1+-1", 4,
            "k:1>=1?1", 4, "k:1=1&&1=1?1", 6, "k:1=1=1?1", 5, "k:1&1=1?1", 3, "k:x;k:", 2);
    }

    // Promise 13

    private static void withinAMillion() {
        ANSWERS.sentence(13, "Behind each sign numbers are within -1,000,000 .. 1,000,000");
        worths("k:9999*100+99", 999999, "k:9999*100+100", 1000000, "k:9999*100+101", 1000000, "k:0-9999*100-99", -999999,
            "k:0-9999*100-100", -1000000, "k:0-9999*100-101", -1000000, "k:1000*1000", 1000000, "k:1001*1000", 1000000,
            "k:[0-1000]*1000", -1000000, "k:[0-1001]*1000", -1000000, "k:[0-1001]*[0-1000]", 1000000);
        worths("k:9999*9999/9999", 100, "k:9999*9999-1", 999999, "k:[0-9999]*9999+1", -999999, "k:9999*9999-9999*9999", 0,
            "k:9999*9999+9999*9999-1", 999999, "k:9999*9999=1000*1000?1;k:2", 1, "k:9999*9999>1000*1000?1;k:2", 2);
        ANSWERS.due("highest and highest", Barns.worthOf("k:a+s", Barns.HIGH, Barns.HIGH, 0, 0, 0), 1000000);
        ANSWERS.due("lowest and lowest", Barns.worthOf("k:a+s", Barns.LOW, Barns.LOW, 0, 0, 0), -1000000);
        ANSWERS.due("lowest less highest", Barns.worthOf("k:a-s", Barns.LOW, Barns.HIGH, 0, 0, 0), -1000000);
        ANSWERS.due("lowest times lowest", Barns.worthOf("k:a*s", Barns.LOW, Barns.LOW, 0, 0, 0), 1000000);
        ANSWERS.due("lowest by -1", Barns.worthOf("k:a/s", Barns.LOW, -1, 0, 0, 0), 1000000);
        ANSWERS.due("a million and one by 1", Barns.worthOf("k:a/s", 1000001, 1, 0, 0, 0), 1000000);
    }

    private static void partsCutTowardsZero() {
        ANSWERS.sentence(13, "/ cuts towards 0");
        worths("k:7/2", 3, "k:[0-7]/2", -3, "k:7/[0-2]", -3, "k:[0-7]/[0-2]", 3, "k:1/2", 0, "k:[0-1]/2", 0, "k:8/2", 4,
            "k:0-7/2", -3, "k:7/7", 1, "k:6/7", 0);
    }

    private static void partsByZero() {
        ANSWERS.sentence(13, "by 0 gives 0");
        worths("k:7/0", 0, "k:0/0", 0, "k:[0-7]/0", 0, "k:7/[1-1]", 0, "k:7/0*5+3", 3, "k:7/a+1", 1, "k:7/[1/2]", 0,
            "k:7/0=0?1;k:2", 1, "k:7/0000", 0);
    }

    private static void theFirstThatHolds() {
        ANSWERS.sentence(13, "the SUM of the first CLAUSE whose CONDITION holds (or has none), 0 without");
        worths("k:1=2?5", 0, "k:1=2?5;k:2=3?6", 0, "k:1=1?5;k:1=1?6", 5, "k:1=2?5;k:1=1?6;k:7", 6, "k:1=2?5;k:7;k:1=1?6", 7,
            "k:5;k:6", 5, "k:0;k:6", 0, "k:1=1?0;k:6", 0, "k:1<1?5", 0, "k:1>1?5", 0, "k:0-5", -5,
            "k:1<2?5", 5, "k:2<1?5", 0, "k:2>1?5", 5, "k:1>2?5", 0, "k:2=1?5", 0);
        worths("k:!1=1?5", 0, "k:!1=2?5", 5, "k:!!1=1?5", 5, "k:1=2|1=3?5", 0, "k:1=1|1=3?5", 5, "k:1=2|1=1?5", 5,
            "k:1=1|2=2?5", 5, "k:1=1&2=2?5", 5, "k:1=1&1=2?5", 0, "k:1=2&1=1?5", 0, "k:1=2&1=3?5", 0);
    }

    private static void noSuchRule() {
        ANSWERS.sentence(13, "NoSuchElementException: no such RULE");
        CornBarn barn = new CornBarn();
        ANSWERS.due("rule 0 of none", Barns.worth(barn, 0, 0, 0, 0, 0, 0), Barns.THROWN);
        Barns.tellRule(barn, "k:1");
        Barns.tellRule(barn, "k:2");
        ANSWERS.due("rule 1 of two", Barns.worth(barn, 1, 0, 0, 0, 0, 0), 2);
        for (int rule : new int[] {-1, 2, 5, 6, Barns.LOW, Barns.HIGH}) {
            ANSWERS.due("rule " + rule, Barns.worth(barn, rule, 0, 0, 0, 0, 0), Barns.THROWN);
        }
    }

    private static void theLongestText() {
        ANSWERS.sentence(6, "a TAPE of 240 bytes is a RULE");
        StringBuilder sums = new StringBuilder("k:1");
        while (sums.length() < 239) {
            sums.append("+1");
        }
        ANSWERS.due("119 ones", Barns.worthOf(sums.toString()), 119);
        ANSWERS.due("119 ones, and a blank", Barns.worthOf(sums + " "), 119);
        String clauses = "k:1=2?3;".repeat(29) + "k:4=4?5";
        ANSWERS.due("thirty clauses", Barns.worthOf(clauses), 5);
        ANSWERS.sentence(5, "a TAPE of 240 bytes is a LAND");
        String land = "y 4" + ";w 99 9".repeat(20) + ";h 0 20 3".repeat(4) + ";h 1 20 3".repeat(4) + ";h 3 9 1";
        CornBarn barn = Barns.withLands(land + " ".repeat(240 - land.length()));
        ANSWERS.due("its eaters", barn.told(0, 1), 180);
        ANSWERS.due("its last harvest", Barns.harvest(barn, 0, 3, 0, 0), 9);
    }

    public static void main(String[] args) {
        fiveHundredAndTwelveCalls();
        newObject();
        feedUpTo240();
        feedLeavesZerosOut();
        endWithinTheTape();
        endLeavesTheFirst();
        sortsOfFaults();
        seasonsOfAYear();
        payersAndTheirNumber();
        twentyOfThese();
        seasonOfAHarvest();
        sacksOfAHarvest();
        fourHarvestsOfASeason();
        weightsOfASeason();
        costMiceAndRoom();
        firstAndLatest();
        oneOrTwoDigits();
        wrongAtTheLastDigit();
        blanksInLands();
        landsThatEndTooEarly();
        aSecondYear();
        aSeasonWithoutAHarvest();
        sixLands();
        sixRules();
        noLandIsARule();
        clausesOneAtLeast();
        everyAtom();
        digitsOfARule();
        conditionsBegunByASign();
        blanksInRules();
        sixWithinOneAnother();
        besideOneAnother();
        rulesThatEndTooEarly();
        withinAMillion();
        partsCutTowardsZero();
        partsByZero();
        theFirstThatHolds();
        noSuchRule();
        theLongestText();
        ANSWERS.end();
    }
}
