import java.util.Arrays;
import java.util.NoSuchElementException;

/** Corn kept till spring, as ../shared/DOC.md tells it. */
public final class CornBarn {
    public static final int NONE = -1;
    public static final int HIDDEN = -100000;

    private static final int NO_SUCH_SORT = -2;

    private static final int MOST_BYTES = 240;
    private static final int MOST_TEXTS = 6;
    private static final int MOST_SEASONS = 4;
    private static final int MOST_STATEMENTS_W = 20;
    private static final int MOST_QUANTITY = 9;
    private static final int MOST_HARVESTS = 4;
    private static final int MOST_WEIGHT = 9;
    private static final int MOST_WEIGHTS = 12;
    private static final int MOST_SACKS = 20;
    private static final int MOST_PAY = 99;
    private static final int MOST_COST = 30;
    private static final int MOST_AMOUNT = 40;
    private static final int AMOUNTS = MOST_AMOUNT + 1;
    private static final int MOST_TO_GO = 12;
    private static final int MOST_STEPS = 6;
    private static final int MOST_ROW = 40;
    private static final int MOST_EATEN = 200;
    private static final int PRICE_OF_NOTHING_SOLD = 100;

    private static final int KEEPERS_NONE = 0;
    private static final int KEEPERS_ALL = 1;
    private static final int KEEPERS_GOOD = 2;
    private static final int KEEPERS_ONE = 3;
    private static final int KEEPERS_RULE = 4;
    private static final int SORTS = 5;

    private static final int MOST_NESTED = 6;
    private static final int MOST_DIGITS = 4;
    private static final int MOST_WORTH = 1000000;

    private final Tape tape;
    private final LandReader landReader;
    private final RuleReader ruleReader;
    private final Land[] lands;
    private final Rule[] rules;
    private final int[][] rows;
    private final int[] rowLengths;
    private final Spread spread;
    private final Town[] pair;
    private final Story latest;
    private final Story aside;
    private int landCount;
    private int ruleCount;

    public CornBarn() {
        tape = new Tape();
        landReader = new LandReader(tape);
        ruleReader = new RuleReader(tape);
        lands = new Land[MOST_TEXTS];
        rules = new Rule[MOST_TEXTS];
        rows = new int[2][MOST_ROW];
        rowLengths = new int[2];
        spread = new Spread();
        pair = new Town[2];
        pair[0] = new Town();
        pair[1] = new Town();
        latest = new Story(2);
        aside = new Story(1);
    }

    public int feed(int a, int b, int c, int d, int e) {
        int more = Tape.bytesIn(a) + Tape.bytesIn(b) + Tape.bytesIn(c) + Tape.bytesIn(d) + Tape.bytesIn(e);
        if (tape.length + more > MOST_BYTES) {
            return NONE;
        }
        tape.put(a);
        tape.put(b);
        tape.put(c);
        tape.put(d);
        tape.put(e);
        return tape.length;
    }

    public boolean end(int n) {
        if (!within(n, 0, tape.length)) {
            return false;
        }
        tape.length = n;
        return true;
    }

    public int fault(int sort) {
        if (sort == 0) {
            return landReader.findFault();
        }
        return sort == 1 ? ruleReader.findFault() : NO_SUCH_SORT;
    }

    public int land() {
        if (landCount >= MOST_TEXTS || landReader.findFault() != NONE) {
            return NONE;
        }
        lands[landCount] = new Land(landReader);
        tape.length = 0;
        landCount++;
        return landCount - 1;
    }

    public int rule() {
        if (ruleCount >= MOST_TEXTS || ruleReader.findFault() != NONE) {
            return NONE;
        }
        rules[ruleCount] = new Rule(ruleReader.written());
        tape.length = 0;
        ruleCount++;
        return ruleCount - 1;
    }

    public int told(int land, int what) {
        Land asked = landAt(land);
        if (asked == null) {
            return NONE;
        }
        switch (what) {
            case 0:
                return asked.seasons;
            case 1:
                return asked.pays.length;
            case 2:
                return asked.cost;
            case 3:
                return asked.mice;
            case 4:
                return asked.room;
            case 5:
                return asked.law;
            case 6:
                return asked.ruleNumber;
            case 7:
                return asked.goodsOf(asked.pays.length);
            default:
                return NONE;
        }
    }

    public int harvest(int land, int season, int i, int what) throws NoSuchElementException {
        Land asked = landAt(land);
        if (asked == null || !within(season, 0, asked.seasons - 1) || !within(i, 0, asked.harvests[season] - 1)) {
            throw new NoSuchElementException("no such harvest");
        }
        if (!within(what, 0, 1)) {
            throw new NoSuchElementException("no such thing of a harvest");
        }
        int place = season * MOST_HARVESTS + i;
        return what == 0 ? asked.sacks[place] : asked.weights[place];
    }

    public int eaten(int land, int e, int what) {
        Land asked = landAt(land);
        if (asked == null || !within(e, 0, MOST_EATEN)) {
            return NONE;
        }
        switch (what) {
            case 0:
                return asked.goodsOf(e);
            case 1:
                return asked.priceAfter(e);
            case 2:
                return asked.pays.length - asked.eatersOf(e);
            default:
                return NONE;
        }
    }

    public int left(int land, int k) {
        Land asked = landAt(land);
        return asked == null || !within(k, 0, MOST_SACKS) ? NONE : asked.leftOf(k);
    }

    public boolean law(int land, int most) {
        Land asked = landAt(land);
        if (asked == null || !within(most, 0, MOST_SACKS)) {
            return false;
        }
        asked.law = most;
        asked.forgetPlans();
        return true;
    }

    public boolean by(int land, int rule) {
        Land asked = landAt(land);
        if (asked == null || !within(rule, NONE, ruleCount - 1)) {
            return false;
        }
        asked.ruleNumber = rule;
        asked.ownRule = rule == NONE ? null : rules[rule];
        asked.forgetPlans();
        return true;
    }

    public int worth(int rule, int a, int s, int n, int p, int r) throws NoSuchElementException {
        if (!within(rule, 0, ruleCount - 1)) {
            throw new NoSuchElementException("no such rule");
        }
        return rules[rule].worthOf(a, s, n, p, r);
    }

    public int keep(int land, int keepers, int n, int season, int amount) {
        Plan plan = planAt(land, keepers, n, season, amount);
        return plan == null ? NONE : plan.keptAt(n, season, amount);
    }

    public int sold(int land, int keepers, int n, int season, int amount) {
        Plan plan = planAt(land, keepers, n, season, amount);
        return plan == null ? NONE : plan.eatenOf(amount - plan.keptAt(n, season, amount));
    }

    public int price(int land, int keepers, int n, int season, int amount) {
        Plan plan = planAt(land, keepers, n, season, amount);
        return plan == null ? NONE : plan.priceOf(amount - plan.keptAt(n, season, amount));
    }

    public long below(int land, int n, int season) {
        Land asked = landFor(land, n, season, 0);
        return asked == null ? NONE : asked.belowOf(n, season);
    }

    public long welfare(int land, int keepers, int n, int season, int amount) {
        Plan plan = planAt(land, keepers, n, season, amount);
        return plan == null ? NONE : plan.welfareAt(n, season, amount);
    }

    public long takings(int land, int n, int season, int amount) {
        Plan plan = planAt(land, KEEPERS_ONE, n, season, amount);
        return plan == null ? NONE : plan.bestAt(n, season, amount);
    }

    public int unlike(int land, int n, int season) {
        Plan all = planAt(land, KEEPERS_ALL, n, season, 0);
        Plan good = planAt(land, KEEPERS_GOOD, n, season, 0);
        if (all == null || good == null) {
            return NONE;
        }
        for (int amount = 0; amount <= MOST_AMOUNT; amount++) {
            if (all.keptAt(n, season, amount) != good.keptAt(n, season, amount)) {
                return amount;
            }
        }
        return NONE;
    }

    public int ever(int land, int keepers) {
        Plan plan = planAt(land, keepers, 1, 0, 0);
        if (plan == null) {
            return NONE;
        }
        for (int n = 2; n < MOST_TO_GO; n++) {
            if (plan.keepsAlikeWithOneMore(n)) {
                return n;
            }
        }
        return NONE;
    }

    public int edge(int land, int n, int season, int amount) {
        Land asked = landFor(land, n, season, amount);
        if (asked == null) {
            return NONE;
        }
        Plan probe = asked.probePlan();
        for (int cost = 0; cost <= MOST_COST; cost++) {
            probe.changeCost(cost);
            probe.reckonTo(n, season);
            if (probe.keptAt(n, season, amount) == 0) {
                return cost;
            }
        }
        return NONE;
    }

    public boolean tell(int land, int season, int amount, int k) {
        Land asked = landFor(land, 1, season, amount);
        if (asked == null || !within(k, 0, Math.min(amount, MOST_SACKS))) {
            return false;
        }
        asked.table[season * AMOUNTS + amount] = k;
        return true;
    }

    public int judge(int land, int n, int season) {
        Plan all = planAt(land, KEEPERS_ALL, n, season, 0);
        if (all == null) {
            return NONE;
        }
        for (int amount = 0; amount <= MOST_AMOUNT; amount++) {
            if (all.keptAt(n, season, amount) != all.land.table[season * AMOUNTS + amount]) {
                return amount;
            }
        }
        return NONE;
    }

    public long news(int land, int n, int season, int amount) {
        Plan good = planAt(land, KEEPERS_GOOD, n, season, amount);
        if (good == null || n < 2) {
            return NONE;
        }
        return good.bestIfTold(n, season, amount) - good.bestAt(n, season, amount);
    }

    public long after(int land, int keepers, int n, int season, int amount, int t, int what, int x) {
        Plan plan = landFor(land, n, season, amount) == null ? null : planForAllSeasons(land, keepers, n);
        if (plan == null || !within(t, 0, MOST_STEPS) || !within(what, 0, 4)) {
            return NONE;
        }
        int then = season;
        spread.begin(amount);
        for (int step = 0; step < t; step++) {
            spread.step(plan, n, then);
            then = plan.land.seasonBehind(then);
        }
        return spread.weigh(plan, n, then, what, x);
    }

    public int row(int row, int sacks) {
        if (!within(row, 0, 1) || !within(sacks, 0, MOST_SACKS) || rowLengths[row] >= MOST_ROW) {
            return NONE;
        }
        rows[row][rowLengths[row]] = sacks;
        rowLengths[row]++;
        return rowLengths[row];
    }

    public int clear(int row) {
        if (!within(row, 0, 1)) {
            return NONE;
        }
        int were = rowLengths[row];
        rowLengths[row] = 0;
        return were;
    }

    public boolean granary(int land, int buy, int sell, int room) {
        Land asked = landAt(land);
        if (asked == null || !within(sell, 0, MOST_PAY) || !within(buy, 0, sell) || !within(room, 0, MOST_SACKS)) {
            return false;
        }
        asked.buyBelow = buy;
        asked.sellAbove = sell;
        asked.granaryRoom = room;
        return true;
    }

    public int run(int land, int keepers, int n, int before) {
        Plan plan = planForAllSeasons(land, keepers, n);
        if (plan == null || !within(before, 0, MOST_SACKS)) {
            return NONE;
        }
        goAlone(latest, plan, n, before);
        return latest.seasons;
    }

    public int towns(int one, int other, int keepers, int n, int before, int itsBefore, int road) {
        Plan first = planForAllSeasons(one, keepers, n);
        Plan second = planForAllSeasons(other, keepers, n);
        if (first == null || second == null || one == other || keepers == KEEPERS_ONE) {
            return NONE;
        }
        if (first.land.seasons != second.land.seasons || !within(road, 0, MOST_PAY)) {
            return NONE;
        }
        if (!within(before, 0, MOST_SACKS) || !within(itsBefore, 0, MOST_SACKS)) {
            return NONE;
        }
        pair[0].begin(first, rows[0], before);
        pair[1].begin(second, rows[1], itsBefore);
        latest.tellOfTwo(pair[0], pair[1], n, Math.min(rowLengths[0], rowLengths[1]), road);
        return latest.seasons;
    }

    public int ran(int town, int i, int what) throws NoSuchElementException {
        if (!within(town, 0, latest.townCount - 1) || !within(i, 0, latest.seasons - 1)) {
            throw new NoSuchElementException("no such season of a run");
        }
        if (!within(what, 0, Story.THINGS - 1)) {
            throw new NoSuchElementException("no such thing of a season");
        }
        return latest.cells[Story.placeOf(town, i) + what];
    }

    public int spent() {
        return latest.spending;
    }

    public int blame(int land, int keepers, int n, int before) {
        Plan plan = planForAllSeasons(land, keepers, n);
        if (plan == null || !within(before, 0, MOST_SACKS)) {
            return HIDDEN;
        }
        goAlone(aside, plan, n, before);
        int hungry = aside.hungryInAll();
        goAlone(aside, plan.land.planOf(KEEPERS_NONE), n, before);
        return hungry - aside.hungryInAll();
    }

    public int count(int what) {
        switch (what) {
            case 0:
                return landCount;
            case 1:
                return ruleCount;
            case 2:
                return rowLengths[0];
            case 3:
                return rowLengths[1];
            case 4:
                return tape.length;
            default:
                return NONE;
        }
    }

    private void goAlone(Story story, Plan plan, int n, int before) {
        pair[0].begin(plan, rows[0], before);
        story.tellOfOne(pair[0], n, rowLengths[0]);
    }

    private Land landAt(int number) {
        return within(number, 0, landCount - 1) ? lands[number] : null;
    }

    private Land landFor(int number, int n, int season, int amount) {
        Land asked = landAt(number);
        if (asked == null || !within(n, 1, MOST_TO_GO) || !within(season, 0, asked.seasons - 1)) {
            return null;
        }
        return within(amount, 0, MOST_AMOUNT) ? asked : null;
    }

    /** The plan of a land's keepers, not yet reckoned; null, if there are no such ones. */
    private Plan planFor(int number, int keepers, int n, int season, int amount) {
        Land asked = landFor(number, n, season, amount);
        return asked == null || !within(keepers, 0, SORTS - 1) ? null : asked.planOf(keepers);
    }

    private Plan planAt(int number, int keepers, int n, int season, int amount) {
        Plan plan = planFor(number, keepers, n, season, amount);
        if (plan != null) {
            plan.reckonTo(n, season);
        }
        return plan;
    }

    private Plan planForAllSeasons(int number, int keepers, int n) {
        Plan plan = planFor(number, keepers, n, 0, 0);
        for (int season = 0; plan != null && season < plan.land.seasons; season++) {
            plan.reckonTo(n, season);
        }
        return plan;
    }

    private static boolean within(int value, int least, int most) {
        return value >= least && value <= most;
    }

    /** The bytes that were fed and not yet made a land or a rule of; none of them is 0. */
    private static final class Tape {
        private static final int HIGHEST_SHIFT = 24;

        final int[] bytes = new int[MOST_BYTES];
        int length;

        static int bytesIn(int word) {
            int found = 0;
            for (int shift = HIGHEST_SHIFT; shift >= 0; shift -= 8) {
                if ((word >>> shift & 255) != 0) {
                    found++;
                }
            }
            return found;
        }

        void put(int word) {
            for (int shift = HIGHEST_SHIFT; shift >= 0; shift -= 8) {
                int next = word >>> shift & 255;
                if (next != 0 && length < bytes.length) {
                    bytes[length] = next;
                    length++;
                }
            }
        }
    }

    /** What both readers of texts share: a place on the tape, and the first fault met. */
    private abstract static class Reader {
        final Tape tape;
        int at;
        int firstFault;

        Reader(Tape tape) {
            this.tape = tape;
        }

        final void goToBeginning() {
            at = 0;
            firstFault = NONE;
        }

        /** The byte at this place, 0 at the end. */
        final int here() {
            return at >= 0 && at < tape.length ? tape.bytes[at] : 0;
        }

        static boolean isDigit(int sign) {
            return sign >= '0' && sign <= '9';
        }

        final void skipBlanks() {
            for (int i = at; i < tape.length && tape.bytes[i] == ' '; i++) {
                at++;
            }
        }

        /** Notes a fault; false, so that a method that reads can answer with it. */
        final boolean isWrongAt(int place) {
            if (firstFault == NONE) {
                firstFault = place;
            }
            return false;
        }

        /** Goes past this byte, with blanks ahead, if it is the one that comes. */
        final boolean takes(int sign) {
            skipBlanks();
            if (here() != sign) {
                return false;
            }
            at++;
            return true;
        }

        final boolean needs(int sign) {
            skipBlanks();
            if (here() != sign) {
                return isWrongAt(at);
            }
            at++;
            return true;
        }

        /** The fault of the whole text, once all its parts that could be read are. */
        final int faultAtEnd() {
            if (firstFault == NONE && at < tape.length) {
                firstFault = at;
            }
            return firstFault;
        }
    }

    /** Reads the tape as a land; what it has read is a draft for a new one. */
    private static final class LandReader extends Reader {
        final int[] eatersWhoPay = new int[MOST_PAY + 1];
        final int[] harvests = new int[MOST_SEASONS];
        final int[] weightSums = new int[MOST_SEASONS];
        final int[] sacks = new int[MOST_SEASONS * MOST_HARVESTS];
        final int[] weights = new int[MOST_SEASONS * MOST_HARVESTS];
        int seasons;
        int eaters;
        int cost;
        int mice;
        int room;
        private int statementsW;
        private int number;

        LandReader(Tape tape) {
            super(tape);
        }

        int findFault() {
            clearDraft();
            goToBeginning();
            boolean right = needs('y') && readsYear();
            for (int i = 0; i < MOST_BYTES && right && takes(';'); i++) {
                right = readsStatement();
            }
            return faultAtEnd();
        }

        private void clearDraft() {
            Arrays.fill(eatersWhoPay, 0);
            Arrays.fill(harvests, 0);
            Arrays.fill(weightSums, 0);
            seasons = 0;
            eaters = 0;
            cost = 0;
            mice = 0;
            room = MOST_SACKS;
            statementsW = 0;
        }

        private boolean readsStatement() {
            if (takes('w')) {
                return readsEaters();
            }
            if (takes('h')) {
                return readsHarvest();
            }
            if (takes('c')) {
                return readsCost();
            }
            if (takes('m')) {
                return readsMice();
            }
            return needs('r') && readsRoom();
        }

        private boolean readsYear() {
            if (!readsNumber(1, MOST_SEASONS)) {
                return false;
            }
            seasons = number;
            return true;
        }

        private boolean readsEaters() {
            statementsW++;
            if (statementsW > MOST_STATEMENTS_W) {
                return isWrongAt(at - 1);
            }
            if (!readsNumber(1, MOST_PAY)) {
                return false;
            }
            int pay = number;
            if (!readsNumber(1, MOST_QUANTITY)) {
                return false;
            }
            eatersWhoPay[pay] += number;
            eaters += number;
            return true;
        }

        private boolean readsHarvest() {
            if (!readsNumber(0, seasons - 1)) {
                return false;
            }
            int season = number;
            if (harvests[season] >= MOST_HARVESTS) {
                return isWrongAt(at - 1);
            }
            if (!readsNumber(0, MOST_SACKS)) {
                return false;
            }
            int place = season * MOST_HARVESTS + harvests[season];
            sacks[place] = number;
            if (!readsNumber(1, Math.min(MOST_WEIGHT, MOST_WEIGHTS - weightSums[season]))) {
                return false;
            }
            weights[place] = number;
            weightSums[season] += number;
            harvests[season]++;
            return true;
        }

        private boolean readsCost() {
            if (!readsNumber(0, MOST_COST)) {
                return false;
            }
            cost = number;
            return true;
        }

        private boolean readsMice() {
            if (!readsNumber(0, MOST_SACKS)) {
                return false;
            }
            if (number == 1) {
                return isWrongAt(at - 1);
            }
            mice = number;
            return true;
        }

        private boolean readsRoom() {
            if (!readsNumber(0, MOST_SACKS)) {
                return false;
            }
            room = number;
            return true;
        }

        /** Reads blanks, one at least, and a number of one or two digits. */
        private boolean readsNumber(int least, int most) {
            if (here() != ' ') {
                return isWrongAt(at);
            }
            skipBlanks();
            if (!isDigit(here())) {
                return isWrongAt(at);
            }
            number = here() - '0';
            at++;
            if (isDigit(here())) {
                number = number * 10 + here() - '0';
                at++;
            }
            return within(number, least, most) || isWrongAt(at - 1);
        }
    }

    /** Reads the tape as a rule, and writes it down with each sign behind what it joins. */
    private static final class RuleReader extends Reader {
        private static final int ROOM_FOR_CODE = 2 * MOST_BYTES + 2;

        private final int[] code = new int[ROOM_FOR_CODE];
        private int codeLength;

        RuleReader(Tape tape) {
            super(tape);
        }

        int findFault() {
            codeLength = 0;
            goToBeginning();
            boolean right = readsClause();
            for (int i = 0; i < MOST_BYTES && right && takes(';'); i++) {
                right = readsClause();
            }
            return faultAtEnd();
        }

        int[] written() {
            return Arrays.copyOf(code, codeLength);
        }

        private boolean readsClause() {
            if (!needs('k') || !needs(':')) {
                return false;
            }
            skipBlanks();
            if (here() == '!' || here() == '(') {
                return readsCondition(0, false) && readsGiven();
            }
            if (!readsSum(0)) {
                return false;
            }
            if (isAtComparison()) {
                return readsCondition(0, true) && readsGiven();
            }
            return writes(Rule.GIVE);
        }

        private boolean readsGiven() {
            return needs('?') && writes(Rule.CHECK) && readsSum(0) && writes(Rule.GIVE);
        }

        /** The first sum of a clause is read before one knows that it begins a condition: then that has begun. */
        private boolean readsCondition(int depth, boolean begun) {
            boolean right = readsTruth(depth, begun);
            for (int i = 0; i < MOST_BYTES && right && takes('|'); i++) {
                right = readsTruth(depth, false) && writes(Rule.OR);
            }
            return right;
        }

        private boolean readsTruth(int depth, boolean begun) {
            boolean right = begun ? readsComparison(depth) : readsUnit(depth);
            for (int i = 0; i < MOST_BYTES && right && takes('&'); i++) {
                right = readsUnit(depth) && writes(Rule.AND);
            }
            return right;
        }

        private boolean readsUnit(int depth) {
            skipBlanks();
            if (here() == '!') {
                return goesDeeper(depth) && readsUnit(depth + 1) && writes(Rule.NOT);
            }
            if (here() == '(') {
                return goesDeeper(depth) && readsCondition(depth + 1, false) && needs(')');
            }
            return readsSum(depth) && readsComparison(depth);
        }

        private boolean isAtComparison() {
            skipBlanks();
            return here() == '=' || here() == '<' || here() == '>';
        }

        private boolean readsComparison(int depth) {
            if (!isAtComparison()) {
                return isWrongAt(at);
            }
            int sign = here();
            at++;
            int joint = sign == '=' ? Rule.SAME : sign == '<' ? Rule.LESS : Rule.MORE;
            return readsSum(depth) && writes(joint);
        }

        private boolean readsSum(int depth) {
            boolean right = readsTerm(depth);
            skipBlanks();
            for (int i = 0; i < MOST_BYTES && right && (here() == '+' || here() == '-'); i++) {
                int joint = here() == '+' ? Rule.PLUS : Rule.MINUS;
                at++;
                right = readsTerm(depth) && writes(joint);
                skipBlanks();
            }
            return right;
        }

        private boolean readsTerm(int depth) {
            boolean right = readsAtom(depth);
            skipBlanks();
            for (int i = 0; i < MOST_BYTES && right && (here() == '*' || here() == '/'); i++) {
                int joint = here() == '*' ? Rule.TIMES : Rule.PARTS;
                at++;
                right = readsAtom(depth) && writes(joint);
                skipBlanks();
            }
            return right;
        }

        private boolean readsAtom(int depth) {
            skipBlanks();
            if (isDigit(here())) {
                return readsDigits();
            }
            if (here() == '[') {
                return goesDeeper(depth) && readsSum(depth + 1) && needs(']');
            }
            int letter = Rule.letterCode(here());
            if (letter == 0) {
                return isWrongAt(at);
            }
            at++;
            return writes(letter);
        }

        private boolean readsDigits() {
            int number = 0;
            for (int i = 0; i < MOST_DIGITS && isDigit(here()); i++) {
                number = number * 10 + here() - '0';
                at++;
            }
            return isDigit(here()) ? isWrongAt(at) : writes(number);
        }

        /** Goes past a ( [ or ! unless it were a seventh within the others. */
        private boolean goesDeeper(int depth) {
            if (depth >= MOST_NESTED) {
                return isWrongAt(at);
            }
            at++;
            return true;
        }

        /** There is always room: a byte of the tape is written down once at most, and a clause's end once more. */
        private boolean writes(int what) {
            if (codeLength < code.length) {
                code[codeLength] = what;
                codeLength++;
            }
            return true;
        }
    }

    /** A rule written down: numbers stand for themselves, all else is less than 0. */
    private static final class Rule {
        static final int LETTER_A = -1;
        static final int LETTER_S = -2;
        static final int LETTER_N = -3;
        static final int LETTER_P = -4;
        static final int LETTER_R = -5;
        static final int PLUS = -6;
        static final int MINUS = -7;
        static final int TIMES = -8;
        static final int PARTS = -9;
        static final int SAME = -10;
        static final int LESS = -11;
        static final int MORE = -12;
        static final int AND = -13;
        static final int OR = -14;
        static final int NOT = -15;
        static final int CHECK = -16;
        static final int GIVE = -17;

        // Each of the seven levels leaves at most a truth, another, a sum, a term and an atom open.
        private static final int ROOM_FOR_OPEN = 64;

        private final int[] code;
        private final int[] open;
        private final int[] letters;
        private int height;

        Rule(int[] code) {
            this.code = code;
            open = new int[ROOM_FOR_OPEN];
            letters = new int[5];
        }

        /** The code of a letter, 0 if it is none. */
        static int letterCode(int letter) {
            switch (letter) {
                case 'a':
                    return LETTER_A;
                case 's':
                    return LETTER_S;
                case 'n':
                    return LETTER_N;
                case 'p':
                    return LETTER_P;
                case 'r':
                    return LETTER_R;
                default:
                    return 0;
            }
        }

        int worthOf(int a, int s, int n, int p, int r) {
            letters[0] = a;
            letters[1] = s;
            letters[2] = n;
            letters[3] = p;
            letters[4] = r;
            height = 0;
            boolean passing = false;
            for (int i = 0; i < code.length; i++) {
                int what = code[i];
                if (passing) {
                    passing = what != GIVE;
                } else if (what == GIVE) {
                    return pull();
                } else if (what == CHECK) {
                    passing = pull() == 0;
                } else {
                    take(what);
                }
            }
            return 0;
        }

        private void take(int what) {
            if (what >= 0) {
                push(what);
            } else if (what >= LETTER_R) {
                push(letters[LETTER_A - what]);
            } else if (what == NOT) {
                push(pull() == 0 ? 1 : 0);
            } else {
                int second = pull();
                int first = pull();
                push(what >= PARTS ? reckoned(what, first, second) : isTrue(what, first, second) ? 1 : 0);
            }
        }

        private static int reckoned(int what, long first, long second) {
            long value;
            switch (what) {
                case PLUS:
                    value = first + second;
                    break;
                case MINUS:
                    value = first - second;
                    break;
                case TIMES:
                    value = first * second;
                    break;
                default:
                    value = second == 0 ? 0 : first / second;
                    break;
            }
            return (int) Math.max(-MOST_WORTH, Math.min(MOST_WORTH, value));
        }

        private static boolean isTrue(int what, int first, int second) {
            switch (what) {
                case SAME:
                    return first == second;
                case LESS:
                    return first < second;
                case MORE:
                    return first > second;
                case AND:
                    return first != 0 && second != 0;
                default:
                    return first != 0 || second != 0;
            }
        }

        private void push(int value) {
            if (height < open.length) {
                open[height] = value;
                height++;
            }
        }

        private int pull() {
            if (height <= 0) {
                return 0;
            }
            height--;
            return open[height];
        }
    }

    /** A land as told, and what is set for it later: law, rule, granary, table. */
    private static final class Land {
        final int seasons;
        final int cost;
        final int mice;
        final int room;
        final int[] pays;
        final int[] harvests;
        final int[] sacks;
        final int[] weights;
        final int[] weightSums;
        final int[] table;
        final int[] goods;
        final int[] bestTakings;
        private final int[] bestSales;
        private final Plan[] plans;
        int law;
        int ruleNumber;
        Rule ownRule;
        int buyBelow;
        int sellAbove;
        int granaryRoom;

        Land(LandReader draft) {
            seasons = draft.seasons;
            cost = draft.cost;
            mice = draft.mice;
            room = draft.room;
            pays = paysOf(draft);
            goods = goodsOfFirst(pays);
            bestTakings = new int[AMOUNTS];
            bestSales = new int[AMOUNTS];
            for (int b = 1; b < AMOUNTS; b++) {
                int taken = b <= pays.length ? b * pays[b - 1] : 0;
                boolean better = taken > bestTakings[b - 1];
                bestTakings[b] = better ? taken : bestTakings[b - 1];
                bestSales[b] = better ? b : bestSales[b - 1];
            }
            harvests = draft.harvests.clone();
            sacks = draft.sacks.clone();
            weights = draft.weights.clone();
            weightSums = draft.weightSums.clone();
            for (int season = 0; season < seasons; season++) {
                if (harvests[season] == 0) {
                    harvests[season] = 1;
                    sacks[season * MOST_HARVESTS] = 0;
                    weights[season * MOST_HARVESTS] = 1;
                    weightSums[season] = 1;
                }
            }
            table = new int[MOST_SEASONS * AMOUNTS];
            plans = new Plan[SORTS + 1];
            law = MOST_SACKS;
            ruleNumber = NONE;
        }

        /** What each eater would pay, those who pay more ahead. */
        private static int[] paysOf(LandReader draft) {
            int[] row = new int[Math.max(0, draft.eaters)];
            int place = 0;
            for (int pay = MOST_PAY; pay > 0; pay--) {
                for (int i = 0; i < draft.eatersWhoPay[pay] && place < row.length; i++) {
                    row[place] = pay;
                    place++;
                }
            }
            return row;
        }

        private static int[] goodsOfFirst(int[] pays) {
            int[] sums = new int[MOST_EATEN + 1];
            for (int e = 1; e <= MOST_EATEN; e++) {
                sums[e] = sums[e - 1] + (e <= pays.length ? pays[e - 1] : 0);
            }
            return sums;
        }

        int eatersOf(int brought) {
            return Math.min(brought, pays.length);
        }

        int goodsOf(int brought) {
            return within(brought, 0, MOST_EATEN) ? goods[brought] : 0;
        }

        int priceAfter(int brought) {
            return brought >= 0 && brought < pays.length ? pays[brought] : 0;
        }

        int saleOf(int unkept) {
            return within(unkept, 0, MOST_AMOUNT) ? bestSales[unkept] : 0;
        }

        /** What the last of so many buyers would pay, who sets the price of one who owns all. */
        int priceOfSale(int sold) {
            return within(sold, 1, pays.length) ? pays[sold - 1] : PRICE_OF_NOTHING_SOLD;
        }

        int leftOf(int kept) {
            return mice > 0 ? kept - kept / mice : kept;
        }

        int mostKept() {
            return Math.min(room, law);
        }

        int seasonBehind(int season) {
            return season + 1 < seasons ? season + 1 : 0;
        }

        int seasonAhead(int season) {
            return season > 0 ? season - 1 : seasons - 1;
        }

        long belowOf(int n, int season) {
            long product = 1;
            int then = season;
            for (int i = 1; i < n; i++) {
                then = seasonBehind(then);
                product *= weightSums[then];
            }
            return product;
        }

        Plan planOf(int sort) {
            if (plans[sort] == null) {
                plans[sort] = new Plan(this, sort);
            }
            return plans[sort];
        }

        /** A plan of all keepers whose cost may be set otherwise than the land's. */
        Plan probePlan() {
            if (plans[SORTS] == null) {
                plans[SORTS] = new Plan(this, KEEPERS_ALL);
            }
            return plans[SORTS];
        }

        /** Plans hang on the law and the rule. */
        void forgetPlans() {
            for (int i = 0; i < plans.length; i++) {
                if (plans[i] != null) {
                    plans[i].forget();
                }
            }
        }
    }

    /**
     * What keepers of one sort keep in a land. Tables are filled from the last season back, one chain for each
     * season that can be the last, and only as far as was asked for.
     */
    private static final class Plan {
        final Land land;
        final int sort;
        private int cost;
        private final int[] kept;
        private final long[] best;
        private long[] welfares;
        private final int[] gains;
        private final int[] levels;
        private final int[] welfareLevels;
        private final long[] ahead;

        Plan(Land land, int sort) {
            this.land = land;
            this.sort = sort;
            cost = land.cost;
            int cells = land.seasons * MOST_TO_GO * AMOUNTS;
            kept = new int[cells];
            best = new long[sort == KEEPERS_GOOD || sort == KEEPERS_ONE ? cells : 0];
            gains = sort == KEEPERS_ONE ? land.bestTakings : land.goods;
            levels = new int[MOST_SEASONS];
            welfareLevels = new int[MOST_SEASONS];
            ahead = new long[MOST_SACKS + 1];
        }

        void forget() {
            Arrays.fill(levels, 0);
            Arrays.fill(welfareLevels, 0);
        }

        void changeCost(int otherCost) {
            cost = otherCost;
            forget();
        }

        /** Fills the tables for a season with n to go, and for those behind it. */
        void reckonTo(int n, int season) {
            int last = lastSeason(n, season);
            int then = last;
            for (int level = 1; level <= n; level++) {
                if (level > levels[last]) {
                    if (sort == KEEPERS_ALL) {
                        fillAll(level, then);
                    } else if (sort == KEEPERS_GOOD || sort == KEEPERS_ONE) {
                        fillBest(level, then);
                    } else if (sort == KEEPERS_RULE) {
                        fillRule(level, then);
                    }
                    levels[last] = level;
                }
                then = land.seasonAhead(then);
            }
        }

        /** What is kept; reckonTo with this n and season must have been called, here and for all that follow. */
        int keptAt(int n, int season, int amount) {
            return kept[cellOf(n, season) + amount];
        }

        /** What those who look for the best get of it, times below. */
        long bestAt(int n, int season, int amount) {
            int cell = cellOf(n, season) + amount;
            return cell < best.length ? best[cell] : 0;
        }

        int eatenOf(int unkept) {
            return sort == KEEPERS_ONE ? land.saleOf(unkept) : land.eatersOf(unkept);
        }

        int priceOf(int unkept) {
            return sort == KEEPERS_ONE ? land.priceOfSale(land.saleOf(unkept)) : land.priceAfter(unkept);
        }

        long welfareAt(int n, int season, int amount) {
            fillWelfareTo(n, season);
            return welfares[cellOf(n, season) + amount];
        }

        boolean keepsAlikeWithOneMore(int n) {
            for (int season = 0; season < land.seasons; season++) {
                reckonTo(n, season);
                reckonTo(n + 1, season);
                int fewer = cellOf(n, season);
                int more = cellOf(n + 1, season);
                for (int amount = 0; amount <= MOST_AMOUNT; amount++) {
                    if (kept[fewer + amount] != kept[more + amount]) {
                        return false;
                    }
                }
            }
            return true;
        }

        /** The best times below, if the next harvest is known as one keeps; for GOOD with n 2 at least. */
        long bestIfTold(int n, int season, int amount) {
            int then = land.seasonBehind(season);
            int cell = cellOf(n - 1, then);
            long times = land.belowOf(n - 1, then);
            int most = Math.min(amount, land.mostKept());
            long sum = 0;
            for (int i = 0; i < land.harvests[then]; i++) {
                int place = then * MOST_HARVESTS + i;
                long top = times * gains[amount] + best[cell + land.sacks[place]];
                for (int k = 1; k <= most; k++) {
                    long now = times * (gains[amount - k] - cost * k);
                    top = Math.max(top, now + best[cell + land.leftOf(k) + land.sacks[place]]);
                }
                sum += land.weights[place] * top;
            }
            return sum;
        }

        private static int cellOf(int n, int season) {
            return (season * MOST_TO_GO + n - 1) * AMOUNTS;
        }

        private int lastSeason(int n, int season) {
            int last = season;
            for (int i = 1; i < n; i++) {
                last = land.seasonBehind(last);
            }
            return last;
        }

        /**
         * What the k-th sack brings does not hang on the amount, and the price falls with the amount: so with one
         * sack more in the barn no fewer are kept, and the count goes on from the amount below.
         */
        private void fillAll(int n, int season) {
            int then = land.seasonBehind(season);
            int most = n > 1 ? land.mostKept() : 0;
            for (int k = 1; k <= most; k++) {
                ahead[k] = pricesThen(n - 1, then, land.leftOf(k));
            }
            long remaining = land.mice > 0 ? land.mice - 1 : 1;
            long parts = land.mice > 0 ? land.mice : 1;
            long weighed = parts * land.weightSums[then];
            int cell = cellOf(n, season);
            int k = 0;
            for (int amount = 0; amount <= MOST_AMOUNT; amount++) {
                for (int i = k; i < Math.min(amount, most); i++) {
                    if (ahead[k + 1] * remaining <= (land.priceAfter(amount - k) + cost) * weighed) {
                        break;
                    }
                    k++;
                }
                kept[cell + amount] = k;
            }
        }

        /** The sum of weight times price in a season, with so much left for it. */
        private long pricesThen(int n, int season, int left) {
            int cell = cellOf(n, season);
            long sum = 0;
            for (int i = 0; i < land.harvests[season]; i++) {
                int place = season * MOST_HARVESTS + i;
                int amount = left + land.sacks[place];
                sum += (long) land.weights[place] * land.priceAfter(amount - kept[cell + amount]);
            }
            return sum;
        }

        private void fillBest(int n, int season) {
            int then = land.seasonBehind(season);
            int most = n > 1 ? land.mostKept() : 0;
            long times = land.belowOf(n, season);
            ahead[0] = 0;
            for (int k = 0; k <= most && n > 1; k++) {
                ahead[k] = sumThen(best, n - 1, then, land.leftOf(k)) - times * cost * k;
            }
            int cell = cellOf(n, season);
            for (int amount = 0; amount <= MOST_AMOUNT; amount++) {
                int bestKept = 0;
                long top = times * gains[amount] + ahead[0];
                for (int k = 1; k <= Math.min(amount, most); k++) {
                    long sum = times * gains[amount - k] + ahead[k];
                    if (sum > top) {
                        top = sum;
                        bestKept = k;
                    }
                }
                kept[cell + amount] = bestKept;
                best[cell + amount] = top;
            }
        }

        /** The sum of weight times what a table says for a season, with so much left for it. */
        private long sumThen(long[] values, int n, int season, int left) {
            int cell = cellOf(n, season);
            long sum = 0;
            for (int i = 0; i < land.harvests[season]; i++) {
                int place = season * MOST_HARVESTS + i;
                sum += land.weights[place] * values[cell + left + land.sacks[place]];
            }
            return sum;
        }

        private void fillRule(int n, int season) {
            int cell = cellOf(n, season);
            for (int amount = 0; amount <= MOST_AMOUNT; amount++) {
                int most = Math.min(amount, land.mostKept());
                int worth = 0;
                if (n > 1 && land.ownRule != null) {
                    worth = land.ownRule.worthOf(amount, season, n, land.priceAfter(amount), most);
                }
                kept[cell + amount] = Math.max(0, Math.min(worth, most));
            }
        }

        private void fillWelfareTo(int n, int season) {
            if (welfares == null) {
                welfares = new long[kept.length];
            }
            int last = lastSeason(n, season);
            int then = last;
            for (int level = 1; level <= n; level++) {
                if (level > welfareLevels[last]) {
                    fillWelfare(level, then);
                    welfareLevels[last] = level;
                }
                then = land.seasonAhead(then);
            }
        }

        private void fillWelfare(int n, int season) {
            int then = land.seasonBehind(season);
            int cell = cellOf(n, season);
            long times = land.belowOf(n, season);
            for (int amount = 0; amount <= MOST_AMOUNT; amount++) {
                int k = kept[cell + amount];
                long now = times * (land.goodsOf(eatenOf(amount - k)) - cost * k);
                welfares[cell + amount] = n > 1 ? now + sumThen(welfares, n - 1, then, land.leftOf(k)) : now;
            }
        }
    }

    /** The weights of the amounts that may stand in the barn after some seasons. */
    private static final class Spread {
        private long[] here;
        private long[] behind;

        Spread() {
            here = new long[AMOUNTS];
            behind = new long[AMOUNTS];
        }

        void begin(int amount) {
            Arrays.fill(here, 0L);
            here[amount] = 1;
        }

        void step(Plan plan, int n, int season) {
            Land land = plan.land;
            int then = land.seasonBehind(season);
            Arrays.fill(behind, 0L);
            for (int amount = 0; amount <= MOST_AMOUNT; amount++) {
                if (here[amount] != 0) {
                    int left = land.leftOf(plan.keptAt(n, season, amount));
                    for (int i = 0; i < land.harvests[then]; i++) {
                        int place = then * MOST_HARVESTS + i;
                        behind[left + land.sacks[place]] += here[amount] * land.weights[place];
                    }
                }
            }
            long[] old = here;
            here = behind;
            behind = old;
        }

        long weigh(Plan plan, int n, int season, int what, int x) {
            long sum = 0;
            for (int amount = 0; amount <= MOST_AMOUNT; amount++) {
                if (here[amount] != 0) {
                    int k = plan.keptAt(n, season, amount);
                    sum += here[amount] * share(what, x, amount, k, plan.priceOf(amount - k));
                }
            }
            return sum;
        }

        private static int share(int what, int x, int amount, int kept, int price) {
            switch (what) {
                case 0:
                    return amount <= x ? 1 : 0;
                case 1:
                    return kept == 0 ? 1 : 0;
                case 2:
                    return price >= x ? 1 : 0;
                case 3:
                    return price;
                default:
                    return 1;
            }
        }
    }

    /** A land that goes through a row of harvests, in the season that it has come to. */
    private static final class Town {
        Plan plan;
        int amount;
        int kept;
        int brought;
        int stock;
        int paid;
        private int[] harvests;
        private int fromBefore;

        void begin(Plan newPlan, int[] row, int before) {
            plan = newPlan;
            harvests = row;
            fromBefore = before;
            stock = 0;
            paid = 0;
        }

        void openSeason(int i, int season, int n) {
            amount = fromBefore + harvests[i];
            kept = plan.keptAt(n, season, amount);
            fromBefore = plan.land.leftOf(kept);
            brought = amount - kept;
        }

        /** The price of what is brought, where nobody owns all. */
        int priceNow() {
            return plan.land.priceAfter(brought);
        }

        int priceWithOneFewer() {
            return plan.land.priceAfter(brought - 1);
        }

        void tradeWithGranary() {
            if (plan.sort != KEEPERS_ONE && !granaryBuys()) {
                granarySells();
            }
        }

        private boolean granaryBuys() {
            boolean bought = false;
            for (int i = stock; i < plan.land.granaryRoom; i++) {
                if (priceNow() >= plan.land.buyBelow || brought <= 0) {
                    break;
                }
                paid += priceNow();
                brought--;
                stock++;
                bought = true;
            }
            return bought;
        }

        private void granarySells() {
            for (int i = stock; i > 0; i--) {
                if (priceNow() <= plan.land.sellAbove) {
                    break;
                }
                paid -= priceNow();
                brought++;
                stock--;
            }
        }
    }

    /** What was seen of a run, or of two towns, season for season. */
    private static final class Story {
        static final int THINGS = 7;
        private static final int HUNGRY = 4;

        final int[] cells;
        int townCount;
        int seasons;
        int spending;

        Story(int mostTowns) {
            cells = new int[mostTowns * MOST_ROW * THINGS];
        }

        static int placeOf(int town, int i) {
            return (town * MOST_ROW + i) * THINGS;
        }

        void tellOfOne(Town town, int n, int length) {
            townCount = 1;
            seasons = length;
            int season = 0;
            for (int i = 0; i < length; i++) {
                town.openSeason(i, season, n);
                town.tradeWithGranary();
                write(placeOf(0, i), town, 0);
                season = town.plan.land.seasonBehind(season);
            }
            spending = town.paid;
        }

        void tellOfTwo(Town one, Town other, int n, int length, int road) {
            townCount = 2;
            seasons = length;
            spending = 0;
            int season = 0;
            for (int i = 0; i < length; i++) {
                one.openSeason(i, season, n);
                other.openSeason(i, season, n);
                int carried = carry(one, other, road);
                carried -= carry(other, one, road);
                write(placeOf(0, i), one, carried);
                write(placeOf(1, i), other, -carried);
                season = one.plan.land.seasonBehind(season);
            }
        }

        /**
         * Carries as long as it is worth the road: how many sacks. It is never worth it both ways, nor back what
         * was carried, as prices fall with what is brought: so one way after the other is enough.
         */
        private static int carry(Town from, Town to, int road) {
            int carried = 0;
            for (int i = from.brought; i > 0; i--) {
                if (to.priceNow() <= from.priceWithOneFewer() + road) {
                    break;
                }
                from.brought--;
                to.brought++;
                carried++;
            }
            return carried;
        }

        private void write(int place, Town town, int carried) {
            int eaten = town.plan.eatenOf(town.brought);
            cells[place] = town.amount;
            cells[place + 1] = town.kept;
            cells[place + 2] = eaten;
            cells[place + 3] = town.plan.priceOf(town.brought);
            cells[place + HUNGRY] = town.plan.land.pays.length - eaten;
            cells[place + 5] = town.stock;
            cells[place + 6] = carried;
        }

        int hungryInAll() {
            int sum = 0;
            for (int i = 0; i < seasons; i++) {
                sum += cells[placeOf(0, i) + HUNGRY];
            }
            return sum;
        }
    }
}
