import java.util.Random;

/**
 * Faults of random texts, compared with readers of another kind: a machine that goes from sign to sign with a stack,
 * and no way back. Texts are sound ones with a few signs changed, put in or left out.
 */
public final class FaultTest {
    /** Where a text first leaves what a rule can be; the length, if it ends too early; -1 if it is a rule. */
    private static int ruleFault(String text) {
        RuleMachine machine = new RuleMachine();
        for (int i = 0; i < text.length(); i++) {
            if (!machine.goesOn(text.charAt(i))) {
                return i;
            }
        }
        return machine.mayEnd() ? -1 : text.length();
    }

    private static final class RuleMachine {
        // What comes next: K a k, C a colon, B the beginning of a clause's condition or sum,
        // U a unit, A an atom, E what may stand behind an atom, F what may stand behind a ).
        private char next = 'K';
        // How the sum that is read stands: 0 in front of a comparison (or, at clause's level, the clause's own),
        // 1 behind a comparison, 2 a clause's own behind ?, 3 in [ ].
        private int phase = 0;
        private boolean mayBeOwnSum = true;
        private int digits = 0;
        private final StringBuilder stack = new StringBuilder();

        boolean goesOn(char c) {
            boolean digit = c >= '0' && c <= '9';
            if (digit && digits > 0 && next == 'E') {
                digits++;
                return digits <= 4;
            }
            digits = 0;
            if (c == ' ') {
                return true;
            }
            switch (next) {
                case 'K':
                    next = 'C';
                    return c == 'k';
                case 'C':
                    next = 'B';
                    phase = 0;
                    mayBeOwnSum = true;
                    return c == ':';
                case 'B':
                case 'U':
                    return beginsUnit(c, digit) || takesAtom(c, digit);
                case 'A':
                    return takesAtom(c, digit);
                case 'F':
                    return takesJoint(c);
                default:
                    return goesOnBehindAtom(c);
            }
        }

        private boolean beginsUnit(char c, boolean digit) {
            if (c != '!' && c != '(') {
                return false;
            }
            mayBeOwnSum = false;
            next = 'U';
            phase = 0;
            return push(c);
        }

        private boolean takesAtom(char c, boolean digit) {
            if (c == '[') {
                next = 'A';
                stack.append((char) ('0' + phase));
                phase = 3;
                return push(c);
            }
            next = 'E';
            digits = digit ? 1 : 0;
            return digit || "asnpr".indexOf(c) >= 0;
        }

        private boolean push(char c) {
            int open = 0;
            for (int i = 0; i < stack.length(); i++) {
                open += "([!".indexOf(stack.charAt(i)) >= 0 ? 1 : 0;
            }
            stack.append(c);
            return open < 6;
        }

        private char top() {
            return stack.length() == 0 ? '.' : stack.charAt(stack.length() - 1);
        }

        private void pop() {
            stack.setLength(stack.length() - 1);
        }

        private boolean goesOnBehindAtom(char c) {
            if ("+-*/".indexOf(c) >= 0) {
                next = 'A';
                return true;
            }
            switch (phase) {
                case 0:
                    if (c == ';' && stack.length() == 0 && mayBeOwnSum) {
                        next = 'K';
                        return true;
                    }
                    next = 'A';
                    phase = 1;
                    mayBeOwnSum = false;
                    return "=<>".indexOf(c) >= 0;
                case 1:
                    return takesJoint(c);
                case 2:
                    next = 'K';
                    return c == ';';
                default:
                    if (c != ']') {
                        return false;
                    }
                    pop();
                    phase = top() - '0';
                    pop();
                    next = 'E';
                    return true;
            }
        }

        private boolean takesJoint(char c) {
            while (top() == '!') {
                pop();
            }
            if (c == '&' || c == '|') {
                next = 'U';
                phase = 0;
                return true;
            }
            if (c == ')' && top() == '(') {
                pop();
                next = 'F';
                return true;
            }
            next = 'A';
            phase = 2;
            return c == '?' && stack.length() == 0;
        }

        boolean mayEnd() {
            return next == 'E' && stack.length() == 0 && (phase == 2 || phase == 0 && mayBeOwnSum);
        }
    }

    /** The same for a land: whole tokens with their places first, then what they may be. */
    private static int landFault(String text) {
        int i = 0;
        int seasons = 0;
        int wishes = 0;
        int[] counts = new int[4];
        int[] sums = new int[4];
        for (int statement = 0;; statement++) {
            i = pastBlanks(text, i);
            char letter = at(text, i);
            String letters = statement == 0 ? "y" : wishes == 20 ? "hcmr" : "whcmr";
            if (letter == 0 || letters.indexOf(letter) < 0) {
                return i;
            }
            i++;
            int[] numbers = new int["ycmr".indexOf(letter) >= 0 ? 1 : letter == 'w' ? 2 : 3];
            for (int k = 0; k < numbers.length; k++) {
                int from = pastBlanks(text, i);
                if (from == i || !Character.isDigit(at(text, from))) {
                    return from;
                }
                i = from + 1;
                i += at(text, i) >= '0' && at(text, i) <= '9' ? 1 : 0;
                numbers[k] = Integer.parseInt(text.substring(from, i));
                int v = numbers[k];
                boolean fine;
                switch (letter) {
                    case 'y':
                        fine = v >= 1 && v <= 4;
                        break;
                    case 'w':
                        fine = v >= 1 && v <= (k == 0 ? 99 : 9);
                        break;
                    case 'h':
                        fine = k == 0 ? v < seasons && counts[v] < 4
                            : k == 1 ? v <= 20 : v >= 1 && v <= 9 && sums[numbers[0]] + v <= 12;
                        break;
                    case 'c':
                        fine = v <= 30;
                        break;
                    case 'm':
                        fine = v <= 20 && v != 1;
                        break;
                    default:
                        fine = v <= 20;
                        break;
                }
                if (!fine) {
                    return i - 1;
                }
            }
            if (letter == 'y') {
                seasons = numbers[0];
            } else if (letter == 'h') {
                counts[numbers[0]]++;
                sums[numbers[0]] += numbers[2];
            } else if (letter == 'w') {
                wishes++;
            }
            i = pastBlanks(text, i);
            if (i == text.length()) {
                return -1;
            }
            if (text.charAt(i) != ';') {
                return i;
            }
            i++;
        }
    }

    private static int pastBlanks(String text, int from) {
        int i = from;
        while (i < text.length() && text.charAt(i) == ' ') {
            i++;
        }
        return i;
    }

    private static char at(String text, int i) {
        return i < text.length() ? text.charAt(i) : 0;
    }

    private static final String[] RULES = {
        "k:1", "k:a-2;k:a*[s+1]/n", "k:a>2&n>1?a-2;k:0-5", "k:!(a=1|s<2)&!n>3?[p+[r]];k: a / 0",
        "k:(a>1)?2", "k:((([1]=[[a]])))?r", "k:[[[[[[1]]]]]]", "k:!!!!!!a=1?2", "k:[a]*2<3|!([a]=1&n=2)?1234;k:p",
        "k:(((((([", "k:!(!(!([[[", "k: [ a + 1 ] > 2 ? 3 ; k : 4 ", "k:a=1|a=2|a=3&!s=1?n"};
    private static final String[] LANDS = {
        "y 1", "y 4;w 99 9;h 3 20 9;h 3 0 3;c 30;m 20;r 20", "y 2;h 0 1 9;h 0 1 3;h 1 20 1", " y  3 ; w 10 1 ; c 0 ",
        "y 1;h 0 1 1;h 0 2 1;h 0 3 1;h 0 4 1;w 1 1", "y 1;w 1 1;w 1 1;w 1 1;w 1 1;w 1 1;w 1 1;w 1 1;w 1 1;w 1 1;w 1 1"
        + ";w 1 1;w 1 1;w 1 1;w 1 1;w 1 1;w 1 1;w 1 1;w 1 1;w 1 1;w 2 2", "y 2;m 0;m 2;r 0;r 05;c 00;w 01 01"};

    private static String changed(String text, String signs, Random random) {
        StringBuilder written = new StringBuilder(text);
        for (int i = random.nextInt(4); i > 0; i--) {
            int place = random.nextInt(written.length() + 1);
            char sign = signs.charAt(random.nextInt(signs.length()));
            int kind = random.nextInt(4);
            if (kind == 0 || place == written.length()) {
                written.insert(place, sign);
            } else if (kind == 1) {
                written.deleteCharAt(place);
            } else if (kind == 2) {
                written.setCharAt(place, sign);
            } else {
                written.insert(place, written.substring(place, Math.min(written.length(), place + 1 + random.nextInt(9))));
            }
        }
        if (random.nextInt(4) == 0) {
            written.setLength(random.nextInt(written.length() + 1));
        }
        return written.length() > 240 ? written.substring(0, 240) : written.toString();
    }

    public static void main(String[] args) {
        Answers answers = new Answers();
        Random random = new Random(7);
        CornBarn barn = new CornBarn();
        int sound = 0;
        int rounds = 200000;
        for (int round = 0; round < rounds; round++) {
            boolean rule = random.nextBoolean();
            String[] from = rule ? RULES : LANDS;
            String signs = rule ? "k:;?|&!()=<>+-*/0123456789asnpr[] x" + (char) 233 : "ywhcmr;;  0123456789x-" + (char) 160;
            String text = changed(from[random.nextInt(from.length)], signs, random);
            barn.end(0);
            Barns.feed(barn, text);
            int want = rule ? ruleFault(text) : landFault(text);
            answers.due(4, (rule ? "fault(1) of \"" : "fault(0) of \"") + text + "\"", barn.fault(rule ? 1 : 0), want);
            sound += want == -1 ? 1 : 0;
        }
        System.out.println(sound + " texts of " + rounds + " are sound");
        answers.end();
    }
}
