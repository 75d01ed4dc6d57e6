import java.math.BigInteger;
import java.util.ArrayList;
import java.util.HashMap;
import java.util.List;
import java.util.Map;
import java.util.Random;

/** Random lands, rules and rows, each answer compared with a slow model that follows the document word by word. */
public final class NaiveModelTest {
    private static final Answers ANSWERS = new Answers();

    /** The promises stand in the calls' names: a model tests all of them at once. */
    private static void due(String call, long got, long want) {
        ANSWERS.due(call, got, want);
    }

    /** A fraction, so that means are means. */
    private record Part(BigInteger over, BigInteger under) implements Comparable<Part> {
        static Part of(long whole) {
            return new Part(BigInteger.valueOf(whole), BigInteger.ONE);
        }

        static Part of(BigInteger over, BigInteger under) {
            BigInteger g = over.gcd(under);
            return g.signum() == 0 ? of(0) : new Part(over.divide(g), under.divide(g));
        }

        Part plus(Part o) {
            return of(over.multiply(o.under).add(o.over.multiply(under)), under.multiply(o.under));
        }

        Part times(long n, long d) {
            return of(over.multiply(BigInteger.valueOf(n)), under.multiply(BigInteger.valueOf(d)));
        }

        long whole() {
            if (!under.equals(BigInteger.ONE)) {
                throw new IllegalStateException("not whole");
            }
            return over.longValueExact();
        }

        @Override
        public int compareTo(Part o) {
            return over.multiply(o.under).compareTo(o.over.multiply(under));
        }
    }

    private static final class Expression {
        final String text;
        final char sign;
        final long number;
        final Expression one;
        final Expression two;

        Expression(String text, char sign, long number, Expression one, Expression two) {
            this.text = text;
            this.sign = sign;
            this.number = number;
            this.one = one;
            this.two = two;
        }

        long value(long[] letters) {
            switch (sign) {
                case '#':
                    return number;
                case '@':
                    return letters[(int) number];
                case '[':
                case '(':
                    return one.value(letters);
                case '!':
                    return 1 - one.value(letters);
                case '=':
                    return one.value(letters) == two.value(letters) ? 1 : 0;
                case '<':
                    return one.value(letters) < two.value(letters) ? 1 : 0;
                case '>':
                    return one.value(letters) > two.value(letters) ? 1 : 0;
                case '&':
                    return one.value(letters) * two.value(letters);
                case '|':
                    return Math.max(one.value(letters), two.value(letters));
                default:
                    return sum(letters);
            }
        }

        private long sum(long[] letters) {
            long x = one.value(letters);
            long y = two.value(letters);
            long v = sign == '+' ? x + y : sign == '-' ? x - y : sign == '*' ? x * y : y == 0 ? 0 : x / y;
            return v < -1000000 ? -1000000 : v > 1000000 ? 1000000 : v;
        }
    }

    private static final class Maker {
        final Random random;

        Maker(Random random) {
            this.random = random;
        }

        String blanks() {
            return random.nextInt(8) == 0 ? " ".repeat(1 + random.nextInt(2)) : "";
        }

        Expression joined(Expression one, char sign, Expression two) {
            return new Expression(one.text + blanks() + sign + blanks() + two.text, sign, 0, one, two);
        }

        Expression atom(int depth) {
            int kind = random.nextInt(10);
            if (kind < 4 || depth >= 6) {
                int digits = 1 + random.nextInt(4);
                int most = new int[] {10, 100, 1000, 10000}[random.nextInt(digits)];
                StringBuilder text = new StringBuilder(Integer.toString(random.nextInt(most)));
                while (text.length() < digits && random.nextInt(3) == 0) {
                    text.insert(0, '0');
                }
                return new Expression(text.toString(), '#', Integer.parseInt(text.toString()), null, null);
            }
            if (kind < 9) {
                int letter = random.nextInt(5);
                return new Expression("asnpr".substring(letter, letter + 1), '@', letter, null, null);
            }
            Expression in = sum(depth + 1);
            return new Expression("[" + blanks() + in.text + blanks() + "]", '[', 0, in, null);
        }

        Expression term(int depth) {
            Expression term = atom(depth);
            while (random.nextInt(4) == 0) {
                term = joined(term, random.nextBoolean() ? '*' : '/', atom(depth));
            }
            return term;
        }

        Expression sum(int depth) {
            Expression sum = term(depth);
            while (random.nextInt(3) == 0) {
                sum = joined(sum, random.nextBoolean() ? '+' : '-', term(depth));
            }
            return sum;
        }

        Expression unit(int depth) {
            int kind = depth >= 6 ? 9 : random.nextInt(8);
            if (kind == 0) {
                Expression in = unit(depth + 1);
                return new Expression("!" + blanks() + in.text, '!', 0, in, null);
            }
            if (kind == 1) {
                Expression in = condition(depth + 1);
                return new Expression("(" + blanks() + in.text + blanks() + ")", '(', 0, in, null);
            }
            return joined(sum(depth), "=<>".charAt(random.nextInt(3)), sum(depth));
        }

        Expression truth(int depth) {
            Expression truth = unit(depth);
            while (random.nextInt(4) == 0) {
                truth = joined(truth, '&', unit(depth));
            }
            return truth;
        }

        Expression condition(int depth) {
            Expression condition = truth(depth);
            while (random.nextInt(4) == 0) {
                condition = joined(condition, '|', truth(depth));
            }
            return condition;
        }
    }

    private static final class NaiveRule {
        final List<Expression> conditions = new ArrayList<>();
        final List<Expression> sums = new ArrayList<>();
        String text = "";

        NaiveRule(Maker maker) {
            int clauses = 1 + maker.random.nextInt(3);
            StringBuilder written = new StringBuilder();
            for (int i = 0; i < clauses; i++) {
                Expression condition = maker.random.nextInt(3) == 0 ? null : maker.condition(0);
                Expression sum = maker.sum(0);
                conditions.add(condition);
                sums.add(sum);
                written.append(i == 0 ? "" : ";").append(maker.blanks()).append('k').append(maker.blanks()).append(':');
                written.append(maker.blanks());
                if (condition != null) {
                    written.append(condition.text).append(maker.blanks()).append('?').append(maker.blanks());
                }
                written.append(sum.text).append(maker.blanks());
            }
            text = written.toString();
        }

        long worth(long... letters) {
            for (int i = 0; i < sums.size(); i++) {
                if (conditions.get(i) == null || conditions.get(i).value(letters) == 1) {
                    return sums.get(i).value(letters);
                }
            }
            return 0;
        }
    }

    private static final class NaiveLand {
        int seasons;
        int cost;
        int mice;
        int room = 20;
        int law = 20;
        int buy;
        int sell;
        int granaryRoom;
        NaiveRule rule;
        final List<Integer> pays = new ArrayList<>();
        final List<List<int[]>> harvests = new ArrayList<>();
        final int[][] table = new int[4][41];
        final Map<String, int[]> plans = new HashMap<>();
        final Map<String, Part> sums = new HashMap<>();
        String text;

        NaiveLand(Random random) {
            seasons = 1 + random.nextInt(4);
            StringBuilder written = new StringBuilder(" ".repeat(random.nextInt(2)) + "y " + seasons);
            for (int s = 0; s < seasons; s++) {
                harvests.add(new ArrayList<>());
            }
            int most = random.nextInt(random.nextInt(4) == 0 ? 21 : 9);
            for (int i = 0; i < most; i++) {
                int p = 1 + random.nextInt(random.nextBoolean() ? 99 : 12);
                int q = 1 + random.nextInt(9);
                written.append(";w ").append(p).append(' ').append(q);
                for (int e = 0; e < q; e++) {
                    pays.add(p);
                }
            }
            pays.sort((x, y) -> y - x);
            for (int i = random.nextInt(9); i > 0; i--) {
                int s = random.nextInt(seasons);
                int h = random.nextInt(random.nextBoolean() ? 21 : 7);
                int w = 1 + random.nextInt(random.nextInt(9) + 1);
                if (harvests.get(s).size() < 4 && weights(s) + w <= 12) {
                    written.append(" ; h ").append(s).append("  ").append(h).append(' ').append(w);
                    harvests.get(s).add(new int[] {h, w});
                }
            }
            for (List<int[]> of : harvests) {
                if (of.isEmpty()) {
                    of.add(new int[] {0, 1});
                }
            }
            if (random.nextBoolean()) {
                cost = random.nextInt(random.nextBoolean() ? 31 : 4);
                written.append(";c 30;c ").append(cost);
            }
            if (random.nextBoolean()) {
                mice = random.nextInt(8) == 0 ? 0 : 2 + random.nextInt(19);
                written.append(";m 2;m ").append(mice);
            }
            if (random.nextInt(3) == 0) {
                room = random.nextInt(21);
                written.append(";r 0;r ").append(room);
            }
            text = written.toString();
        }

        int weights(int s) {
            int sum = 0;
            for (int[] h : harvests.get(s)) {
                sum += h[1];
            }
            return sum;
        }

        void forget() {
            plans.clear();
            sums.clear();
        }

        int price(int e) {
            return e < pays.size() ? pays.get(e) : 0;
        }

        int goods(int e) {
            int sum = 0;
            for (int i = 0; i < Math.min(e, pays.size()); i++) {
                sum += pays.get(i);
            }
            return sum;
        }

        int left(int k) {
            return mice == 0 ? k : k - k / mice;
        }

        int may(int amount) {
            return Math.min(amount, Math.min(room, law));
        }

        long below(int n, int s) {
            if (n == 1) {
                return 1;
            }
            int then = (s + 1) % seasons;
            long sum = 0;
            for (int[] h : harvests.get(then)) {
                sum += h[1] * below(n - 1, then);
            }
            return sum;
        }

        /** What is kept and, by ONE, sold. */
        int[] plan(int sort, int c, int n, int s, int a) {
            String key = sort + " " + c + " " + n + " " + s + " " + a;
            int[] known = plans.get(key);
            if (known == null) {
                known = reckon(sort, c, n, s, a);
                plans.put(key, known);
            }
            return known;
        }

        private int[] reckon(int sort, int c, int n, int s, int a) {
            switch (sort) {
                case 1:
                    return new int[] {n == 1 ? 0 : all(c, n, s, a), 0};
                case 2:
                case 3:
                    return best(sort, c, n, s, a);
                case 4:
                    if (n == 1 || rule == null) {
                        return new int[] {0, 0};
                    }
                    long w = rule.worth(a, s, n, price(a), may(a));
                    return new int[] {(int) Math.max(0, Math.min(w, may(a))), 0};
                default:
                    return new int[] {0, 0};
            }
        }

        private int all(int c, int n, int s, int a) {
            int then = (s + 1) % seasons;
            int k = 0;
            while (k < may(a)) {
                Part mean = Part.of(0);
                for (int[] h : harvests.get(then)) {
                    int b = left(k + 1) + h[0];
                    int p = price(b - plan(1, c, n - 1, then, b)[0]);
                    mean = mean.plus(Part.of((long) p * h[1]).times(1, weights(then)));
                }
                Part brings = (mice == 0 ? mean : mean.times(mice - 1, mice)).plus(Part.of(-c));
                if (brings.compareTo(Part.of(price(a - k))) <= 0) {
                    return k;
                }
                k++;
            }
            return k;
        }

        private int[] best(int sort, int c, int n, int s, int a) {
            int[] top = null;
            Part most = null;
            for (int k = 0; k <= (n == 1 ? 0 : may(a)); k++) {
                for (int q = 0; q <= (sort == 3 ? Math.min(a - k, pays.size()) : 0); q++) {
                    Part sum = gain(sort, sort == 3, c, s, n, a, new int[] {k, q});
                    if (most == null || sum.compareTo(most) > 0) {
                        most = sum;
                        top = new int[] {k, q};
                    }
                }
            }
            return top;
        }

        int eaten(int sort, int[] plan, int a) {
            return sort == 3 ? plan[1] : Math.min(a - plan[0], pays.size());
        }

        int price(int sort, int[] plan, int a) {
            return sort != 3 ? price(a - plan[0]) : plan[1] == 0 ? 100 : pays.get(plan[1] - 1);
        }

        /** Goods (or takings) less costs of this season and, by the mean, of those to go. */
        Part gain(int sort, boolean takings, int c, int s, int n, int a, int[] plan) {
            int now = takings ? plan[1] == 0 ? 0 : plan[1] * pays.get(plan[1] - 1) : goods(eaten(sort, plan, a));
            Part sum = Part.of(now - c * plan[0]);
            if (n > 1) {
                int then = (s + 1) % seasons;
                for (int[] h : harvests.get(then)) {
                    int b = left(plan[0]) + h[0];
                    sum = sum.plus(whole(sort, takings, c, n - 1, then, b).times(h[1], weights(then)));
                }
            }
            return sum;
        }

        Part whole(int sort, boolean takings, int c, int n, int s, int a) {
            String key = sort + " " + takings + " " + c + " " + n + " " + s + " " + a;
            Part known = sums.get(key);
            if (known == null) {
                known = gain(sort, takings, c, s, n, a, plan(sort, c, n, s, a));
                sums.put(key, known);
            }
            return known;
        }

        long news(int n, int s, int a) {
            int then = (s + 1) % seasons;
            Part mean = Part.of(0);
            for (int[] h : harvests.get(then)) {
                Part most = null;
                for (int k = 0; k <= may(a); k++) {
                    Part sum = Part.of(goods(a - k) - cost * k);
                    sum = sum.plus(whole(2, false, cost, n - 1, then, left(k) + h[0]));
                    most = most == null || sum.compareTo(most) > 0 ? sum : most;
                }
                mean = mean.plus(most.times(h[1], weights(then)));
            }
            return mean.plus(whole(2, false, cost, n, s, a).times(-1, 1)).times(below(n, s), 1).whole();
        }

        /** Every way through t seasons, one by one. */
        long after(int[] call, int s, int a, int t, long weight) {
            int sort = call[0];
            int n = call[1];
            int x = call[3];
            int[] plan = plan(sort, cost, n, s, a);
            if (t == 0) {
                int p = price(sort, plan, a);
                long[] of = {a <= x ? 1 : 0, plan[0] == 0 ? 1 : 0, p >= x ? 1 : 0, p, 1};
                return of[call[2]] * weight;
            }
            long sum = 0;
            int then = (s + 1) % seasons;
            for (int[] h : harvests.get(then)) {
                sum += after(call, then, left(plan[0]) + h[0], t - 1, weight * h[1]);
            }
            return sum;
        }
    }

    /** A run as told; {amount, kept, eaten, price, hungry, stock, carried} a season, spent behind them. */
    private static int[][] run(NaiveLand land, int sort, int n, int before, int[] row) {
        int[][] seen = new int[row.length + 1][];
        int stock = 0;
        int spent = 0;
        int left = before;
        for (int i = 0; i < row.length; i++) {
            int a = left + row[i];
            int[] plan = land.plan(sort, land.cost, n, i % land.seasons, a);
            left = land.left(plan[0]);
            int brought = a - plan[0];
            if (sort != 3) {
                boolean bought = false;
                while (land.price(brought) < land.buy && stock < land.granaryRoom && brought > 0) {
                    spent += land.price(brought);
                    brought--;
                    stock++;
                    bought = true;
                }
                while (!bought && land.price(brought) > land.sell && stock > 0) {
                    spent -= land.price(brought);
                    brought++;
                    stock--;
                }
            }
            int eaten = sort == 3 ? plan[1] : Math.min(brought, land.pays.size());
            int price = sort == 3 ? land.price(3, plan, a) : land.price(brought);
            seen[i] = new int[] {a, plan[0], eaten, price, land.pays.size() - eaten, stock, 0};
        }
        seen[row.length] = new int[] {spent};
        return seen;
    }

    private static int[][] towns(NaiveLand[] lands, int[] call, int[][] rows) {
        int length = Math.min(rows[0].length, rows[1].length);
        int[][] seen = new int[2 * length][];
        int[] left = {call[2], call[3]};
        for (int i = 0; i < length; i++) {
            int[] brought = new int[2];
            int[] amounts = new int[2];
            int[] kept = new int[2];
            for (int town = 0; town < 2; town++) {
                NaiveLand land = lands[town];
                amounts[town] = left[town] + rows[town][i];
                kept[town] = land.plan(call[0], land.cost, call[1], i % land.seasons, amounts[town])[0];
                left[town] = land.left(kept[town]);
                brought[town] = amounts[town] - kept[town];
            }
            int carried = 0;
            while (true) {
                int road = call[4];
                boolean toOne = brought[1] > 0
                    && lands[0].price(brought[0]) > lands[1].price(brought[1] - 1) + road;
                boolean toOther = brought[0] > 0
                    && lands[1].price(brought[1]) > lands[0].price(brought[0] - 1) + road;
                if (!toOne && !toOther) {
                    break;
                }
                int away = toOne ? -1 : 1;
                carried += away;
                brought[0] -= away;
                brought[1] += away;
            }
            for (int town = 0; town < 2; town++) {
                NaiveLand land = lands[town];
                int eaten = Math.min(brought[town], land.pays.size());
                seen[town * length + i] = new int[] {amounts[town], kept[town], eaten, land.price(brought[town]),
                    land.pays.size() - eaten, 0, town == 0 ? carried : -carried};
            }
        }
        return seen;
    }

    private static void feed(CornBarn barn, String text) {
        barn.end(0);
        Barns.feed(barn, text);
        due("count(4) behind " + text, barn.count(4), text.length());
    }

    private final Random random;
    private final Maker maker;
    private CornBarn barn;
    private final NaiveLand[] lands = new NaiveLand[6];
    private final NaiveRule[] rules = new NaiveRule[6];
    private int[][] rows = new int[2][0];
    private String name = "";

    private NaiveModelTest(long seed) {
        random = new Random(seed);
        maker = new Maker(random);
        barn = new CornBarn();
    }

    private void tellLands() {
        barn = new CornBarn();
        for (int i = 0; i < 6; i++) {
            do {
                lands[i] = new NaiveLand(random);
            } while (lands[i].text.length() > 240);
            feed(barn, lands[i].text);
            due("fault(0) of " + lands[i].text, barn.fault(0), -1);
            due("land() of " + lands[i].text, barn.land(), i);
            do {
                rules[i] = new NaiveRule(maker);
            } while (rules[i].text.length() > 240);
            feed(barn, rules[i].text);
            due("fault(1) of " + rules[i].text, barn.fault(1), -1);
            due("rule() of " + rules[i].text, barn.rule(), i);
        }
        rows = new int[2][];
        for (int row = 0; row < 2; row++) {
            barn.clear(row);
            rows[row] = new int[random.nextInt(41)];
            for (int i = 0; i < rows[row].length; i++) {
                rows[row][i] = random.nextInt(random.nextBoolean() ? 21 : 6);
                due("row", barn.row(row, rows[row][i]), i + 1);
            }
        }
    }

    private void changeSomething(int i) {
        NaiveLand land = lands[i];
        switch (random.nextInt(4)) {
            case 0:
                land.law = random.nextInt(21);
                due("law", barn.law(i, land.law) ? 1 : 0, 1);
                break;
            case 1:
                int rule = random.nextInt(7) - 1;
                land.rule = rule < 0 ? null : rules[rule];
                due("by", barn.by(i, rule) ? 1 : 0, 1);
                due("told(6)", barn.told(i, 6), rule);
                break;
            case 2:
                land.buy = random.nextInt(100);
                land.sell = land.buy + random.nextInt(100 - land.buy);
                land.granaryRoom = random.nextInt(21);
                due("granary", barn.granary(i, land.buy, land.sell, land.granaryRoom) ? 1 : 0, 1);
                break;
            default:
                int s = random.nextInt(land.seasons);
                int a = random.nextInt(41);
                land.table[s][a] = random.nextInt(Math.min(a, 20) + 1);
                due("tell", barn.tell(i, s, a, land.table[s][a]) ? 1 : 0, 1);
                break;
        }
        land.forget();
    }

    private void askLand(int i) {
        NaiveLand land = lands[i];
        due("told 0", barn.told(i, 0), land.seasons);
        due("told 1", barn.told(i, 1), land.pays.size());
        due("told 2", barn.told(i, 2), land.cost);
        due("told 3", barn.told(i, 3), land.mice);
        due("told 4", barn.told(i, 4), land.room);
        due("told 5", barn.told(i, 5), land.law);
        due("told 7", barn.told(i, 7), land.goods(999));
        int e = random.nextInt(201);
        due("eaten 0", barn.eaten(i, e, 0), land.goods(e));
        due("eaten 1", barn.eaten(i, e, 1), land.price(e));
        due("eaten 2", barn.eaten(i, e, 2), Math.max(0, land.pays.size() - e));
        int k = random.nextInt(21);
        due("left", barn.left(i, k), land.left(k));
        for (int s = 0; s < land.seasons; s++) {
            for (int h = 0; h < land.harvests.get(s).size(); h++) {
                due("harvest 0", barn.harvest(i, s, h, 0), land.harvests.get(s).get(h)[0]);
                due("harvest 1", barn.harvest(i, s, h, 1), land.harvests.get(s).get(h)[1]);
            }
        }
    }

    private void askWorth(int i) {
        int[] letters = new int[5];
        for (int j = 0; j < 5; j++) {
            letters[j] = random.nextInt(4) == 0 ? random.nextInt() : random.nextInt(50) - 5;
        }
        due("worth of " + rules[i].text, barn.worth(i, letters[0], letters[1], letters[2], letters[3], letters[4]),
            rules[i].worth(letters[0], letters[1], letters[2], letters[3], letters[4]));
    }

    private void askKeepers(int i, int sort) {
        NaiveLand land = lands[i];
        int n = 1 + random.nextInt(random.nextBoolean() ? 12 : 3);
        int s = random.nextInt(land.seasons);
        int a = random.nextInt(41);
        String at = name + "(" + i + ", " + sort + ", " + n + ", " + s + ", " + a + ") of " + land.text + " law "
            + land.law;
        int[] plan = land.plan(sort, land.cost, n, s, a);
        due("keep" + at, barn.keep(i, sort, n, s, a), plan[0]);
        due("sold" + at, barn.sold(i, sort, n, s, a), land.eaten(sort, plan, a));
        due("price" + at, barn.price(i, sort, n, s, a), land.price(sort, plan, a));
        long below = land.below(n, s);
        due("below" + at, barn.below(i, n, s), below);
        due("welfare" + at, barn.welfare(i, sort, n, s, a),
            land.whole(sort, false, land.cost, n, s, a).times(below, 1).whole());
        if (sort == 3) {
            due("takings" + at, barn.takings(i, n, s, a),
                land.whole(3, true, land.cost, n, s, a).times(below, 1).whole());
        }
        if (n > 1) {
            due("news" + at, barn.news(i, n, s, a), land.news(n, s, a));
        }
        int t = random.nextInt(7);
        for (int what = 0; what < 5; what++) {
            int x = what == 0 ? random.nextInt(44) - 2 : random.nextInt(104) - 2;
            due("after" + at, barn.after(i, sort, n, s, a, t, what, x),
                land.after(new int[] {sort, n, what, x}, s, a, t, 1));
        }
    }

    private void askTables(int i) {
        NaiveLand land = lands[i];
        int n = 1 + random.nextInt(random.nextInt(4) == 0 ? 12 : 6);
        int s = random.nextInt(land.seasons);
        int unlike = -1;
        int judged = -1;
        for (int a = 40; a >= 0; a--) {
            int all = land.plan(1, land.cost, n, s, a)[0];
            unlike = all != land.plan(2, land.cost, n, s, a)[0] ? a : unlike;
            judged = all != land.table[s][a] ? a : judged;
        }
        due("unlike " + land.text, barn.unlike(i, n, s), unlike);
        due("judge " + land.text, barn.judge(i, n, s), judged);
        int a = random.nextInt(41);
        int edge = -1;
        for (int c = 30; c >= 0; c--) {
            edge = land.plan(1, c, n, s, a)[0] == 0 ? c : edge;
        }
        due("edge " + land.text, barn.edge(i, n, s, a), edge);
        int sort = random.nextInt(5);
        due("ever " + sort + " " + land.text, barn.ever(i, sort), ever(land, sort));
    }

    private static int ever(NaiveLand land, int sort) {
        for (int n = 2; n < 12; n++) {
            boolean alike = true;
            for (int s = 0; s < land.seasons; s++) {
                for (int a = 0; a < 41; a++) {
                    alike &= land.plan(sort, land.cost, n, s, a)[0] == land.plan(sort, land.cost, n + 1, s, a)[0];
                }
            }
            if (alike) {
                return n;
            }
        }
        return -1;
    }

    private void askRuns(int i, int sort) {
        NaiveLand land = lands[i];
        int n = 1 + random.nextInt(random.nextInt(8) == 0 ? 12 : 5);
        int before = random.nextInt(21);
        int[][] seen = run(land, sort, n, before, rows[0]);
        int length = rows[0].length;
        due("run", barn.run(i, sort, n, before), length);
        int[][] bare = run(land, 0, n, before, rows[0]);
        int blame = 0;
        for (int j = 0; j < length; j++) {
            blame += seen[j][4] - bare[j][4];
        }
        due("blame", barn.blame(i, sort, n, before), blame);
        due("spent", barn.spent(), seen[length][0]);
        for (int j = 0; j < length; j++) {
            for (int what = 0; what < 7; what++) {
                due("ran " + sort + " " + what + " " + land.text, Barns.ran(barn, 0, j, what), seen[j][what]);
            }
        }
        due("ran too far", Barns.ran(barn, 0, length, 0), Barns.THROWN);
        due("ran elsewhere", Barns.ran(barn, 1, 0, 0), Barns.THROWN);
    }

    private void askTowns(int one, int other, int sort) {
        int road = random.nextInt(random.nextBoolean() ? 100 : 10);
        int[] call = {sort, 1 + random.nextInt(5), random.nextInt(21), random.nextInt(21), road};
        int length = Math.min(rows[0].length, rows[1].length);
        boolean fine = one != other && lands[one].seasons == lands[other].seasons && sort != 3;
        int got = barn.towns(one, other, sort, call[1], call[2], call[3], road);
        due("towns", got, fine ? length : -1);
        if (fine) {
            int[][] seen = towns(new NaiveLand[] {lands[one], lands[other]}, call, rows);
            for (int j = 0; j < 2 * length; j++) {
                for (int what = 0; what < 7; what++) {
                    int town = j < length ? 0 : 1;
                    due("ran of towns " + what, Barns.ran(barn, town, j - town * length, what), seen[j][what]);
                }
            }
            due("spent by towns", barn.spent(), 0);
        }
    }

    public static void main(String[] args) {
        int rounds = args.length > 0 ? Integer.parseInt(args[0]) : 40;
        for (int round = 0; round < rounds; round++) {
            NaiveModelTest test = new NaiveModelTest(1000 + round);
            test.name = " round " + round + " ";
            test.tellLands();
            for (int turn = 0; turn < 24; turn++) {
                int i = turn % 6;
                test.askLand(i);
                for (int rule = 0; rule < 6; rule++) {
                    test.askWorth(rule);
                }
                for (int sort = 0; sort < 5; sort++) {
                    test.askKeepers(i, sort);
                    test.askRuns(i, sort);
                    test.askTowns(i, test.random.nextInt(6), sort);
                }
                if (turn % 6 == round % 6) {
                    test.askTables(i);
                }
                test.changeSomething(i);
            }
        }
        ANSWERS.end();
    }
}
