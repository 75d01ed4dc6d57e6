/**
 * Every short text that begins as a rule does, with each sign that may follow, against the words "the first byte at which
 * no RULE can go on" themselves: a text can go on as a rule, if it is one with some end put behind it.
 */
public final class ShortRuleTest {
    // One sign of each sort that the grammar knows, and one that it does not know.
    private static final String SIGNS = "k:;?&!()=+1[] x";
    private static final int MOST_SIGNS = 8;
    private static final int MOST_DIGITS = 4;
    private static final int MOST_NESTED = 6;

    private static final Answers ANSWERS = new Answers();
    private static int sound = 0;

    /** Whether a whole text is a rule: its parts are put together until nothing is left but one of each. */
    private static boolean isRule(String text) {
        for (String clause : text.split(";", -1)) {
            if (!isClause(clause)) {
                return false;
            }
        }
        return true;
    }

    private static boolean isClause(String clause) {
        if (clause.matches(".*\\d{" + (MOST_DIGITS + 1) + "}.*") || nested(clause) > MOST_NESTED) {
            return false;
        }
        String bare = clause.replaceAll("\\d+", "v").replace(" ", "");
        if (!bare.startsWith("k:")) {
            return false;
        }
        String[] parts = reduced(bare.substring(2), "\\[v(\\+v)*\\]", "v").split("\\?", -1);
        if (parts.length > 2 || !parts[parts.length - 1].matches("v(\\+v)*")) {
            return false;
        }
        return parts.length == 1 || isCondition(parts[0]);
    }

    private static boolean isCondition(String text) {
        String units = text.replaceAll("v(\\+v)*=v(\\+v)*", "u");
        return reduced(units, "!u|\\(u(&u)*\\)", "u").matches("u(&u)*");
    }

    private static String reduced(String text, String pattern, String by) {
        String before = "";
        String now = text;
        while (!now.equals(before)) {
            before = now;
            now = now.replaceAll(pattern, by);
        }
        return now;
    }

    /** How many of ( [ ! stand within one another at most; a ! ends with the unit behind it. */
    private static int nested(String clause) {
        StringBuilder open = new StringBuilder();
        int most = 0;
        for (char sign : clause.toCharArray()) {
            if ("&?)".indexOf(sign) >= 0) {
                while (open.length() > 0 && open.charAt(open.length() - 1) == '!') {
                    open.setLength(open.length() - 1);
                }
            }
            if ("])".indexOf(sign) >= 0 && open.length() > 0) {
                open.setLength(open.length() - 1);
            }
            if ("([!".indexOf(sign) >= 0) {
                open.append(sign);
                most = Math.max(most, open.length());
            }
        }
        return most;
    }

    private static int count(String text, char sign) {
        int found = 0;
        for (char c : text.toCharArray()) {
            found += c == sign ? 1 : 0;
        }
        return found;
    }

    private static boolean canGoOn(String text) {
        int sums = count(text, '[') - count(text, ']');
        int conditions = count(text, '(') - count(text, ')');
        if (sums < 0 || conditions < 0) {
            return false;
        }
        for (String next : new String[] {"", "1", ":1", "k:1"}) {
            for (String compared : new String[] {"", "=1"}) {
                for (String given : new String[] {"", "?1"}) {
                    if (isRule(text + next + "]".repeat(sums) + compared + ")".repeat(conditions) + given)) {
                        return true;
                    }
                }
            }
        }
        return false;
    }

    private static void goOn(CornBarn barn, String text, int more) {
        for (char sign : SIGNS.toCharArray()) {
            String longer = text + sign;
            boolean fine = canGoOn(longer);
            int want = !fine ? text.length() : isRule(longer) ? CornBarn.NONE : longer.length();
            sound += want == CornBarn.NONE ? 1 : 0;
            barn.end(0);
            Barns.feed(barn, longer);
            ANSWERS.due(4, "fault(1) of \"" + longer + "\"", barn.fault(1), want);
            if (fine && more > 1) {
                goOn(barn, longer, more - 1);
            }
        }
    }

    public static void main(String[] args) {
        CornBarn barn = new CornBarn();
        goOn(barn, "", args.length > 0 ? Integer.parseInt(args[0]) : MOST_SIGNS);
        String[] deep = {"k:!!!!!", "k:[[[[[", "k:(((((", "k:!(!([", "k:1=1&!(!((", "k:(!1=1&(((", "k:!1=1&!!!!!", "k:1=[[[[["};
        for (String text : deep) {
            goOn(barn, text, 4);
        }
        System.out.println(sound + " texts are rules");
        ANSWERS.end();
    }
}
