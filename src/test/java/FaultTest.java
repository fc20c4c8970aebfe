import java.math.BigInteger;
import java.util.ArrayDeque;
import java.util.Deque;
import java.util.Random;
import java.util.Set;

/**
 * FAULT of drawn texts, good ones and spoilt ones, told by a machine with a stack that goes on TOKEN by TOKEN: another
 * way than that of the class and of the Reference, which read CLAUSE, TEST and SUM within one another.
 */
final class FaultTest {
    private static final int TEXTS = 30000;
    private static final String[] SPOILS = {"(", ")", "[", "]", "+", "-", "*", "/", "<", ">", "=", ";", " ", "&", "a",
        "Z", "9", "1001", " 0001000 ", " not ", " if ", " or ", " and ", " in ", " chance ", " wit ", "\0", "\377"};
    private static final String[] WORDS = {"house", "wit", "likes", "hungry", "nursery", "way", "kept", "broken",
        "dealt", "minute", "waited"};

    private final Random random = new Random(46);

    public static void main(String[] args) {
        Check c = new Check("FaultTest");
        new FaultTest().go(c);
        c.end();
    }

    private void go(Check c) {
        int good = 0;
        SweetWaits x = new SweetWaits();
        for (int i = 0; i < TEXTS; i++) {
            String text = law();
            text = text.substring(0, Math.min(400, text.length()));
            int want = new Machine(text).fault();
            if (i % 10 == 0) {
                x = new SweetWaits();
            }
            int got = Check.text(x, text);
            c.so("text() of " + text + " answered " + got, want < 0 ? got >= 0 : got == -6);
            c.due("fault() of " + text, x.fault(), want);
            good += want < 0 ? 1 : 0;
        }
        c.so("there were good ones and others: " + good, good > TEXTS / 10 && good < TEXTS * 9 / 10);
    }

    private String pick(String... of) {
        return of[random.nextInt(of.length)];
    }

    private String law() {
        StringBuilder text = new StringBuilder();
        int clauses = random.nextInt(12) == 0 ? 11 + random.nextInt(4) : 1 + random.nextInt(4);
        for (int i = 0; i < clauses; i++) {
            text.append(i == 0 ? "" : pick(";", " ; ")).append(clause(clauses > 6 ? 0 : random.nextInt(5)));
        }
        for (int i = random.nextInt(3); i > 0; i--) {
            spoil(text);
        }
        return text.toString();
    }

    private void spoil(StringBuilder text) {
        int at = random.nextInt(text.length() + 1);
        if (random.nextBoolean()) {
            text.insert(at, pick(SPOILS));
        } else {
            text.delete(at, at + 1 + random.nextInt(3));
        }
    }

    private String clause(int depth) {
        String head = pick("chance ", "waits ", "later ", "in ");
        String sum = head.equals("in ") ? "" : sum(depth);
        return head + sum + (random.nextBoolean() ? " if " + test(depth) : "");
    }

    private String sum(int depth) {
        int kind = depth == 0 ? 0 : random.nextInt(5);
        return switch (kind) {
            case 0 -> random.nextBoolean() ? pick(WORDS) : pick("0", "7", "1000", "0000999");
            case 1 -> "[".repeat(1 + random.nextInt(2)) + sum(depth - 1) + pick("]", "]", "]]");
            default -> sum(depth - 1) + pick("+", "-", "*", "/", " + ") + sum(depth - 1);
        };
    }

    private String test(int depth) {
        int kind = depth == 0 ? 0 : random.nextInt(6);
        return switch (kind) {
            case 0 -> sum(depth) + pick("<", ">", "=") + sum(depth / 2);
            case 1 -> pick("not ", "not not ") + test(depth - 1);
            case 2 -> "(" + test(depth - 1) + ")";
            case 3 -> "(((((" + test(depth - 1) + pick(")))))", "))))))");
            default -> test(depth - 1) + pick(" and ", " or ") + test(depth - 1);
        };
    }

    /** What may come next is told by a state and by what stands open. */
    private static final class Machine {
        private enum State { HEAD, BEHIND_IN, PLAIN, PART, BEHIND_PART, BEHIND_PLAIN }

        private static final BigInteger MOST = BigInteger.valueOf(1000);
        private static final Set<String> PART_WORDS = Set.of(WORDS);
        private static final Set<String> SUM_HEADS = Set.of("chance", "waits", "later");

        private final String text;
        // h a head's sum, l and r the sides of a comparison, ( and [ themselves.
        private final Deque<Character> open = new ArrayDeque<>();
        private State state = State.HEAD;
        private int clauses = 0;
        private int parts = 0;
        private int brackets = 0;

        Machine(String text) {
            this.text = text;
        }

        /** The place of the first TOKEN that can't go on; -1 without. */
        int fault() {
            int at = 0;
            while (true) {
                while (at < text.length() && text.charAt(at) == ' ') {
                    at++;
                }
                int to = at;
                do {
                    to++;
                } while (to < text.length() && joins(text.charAt(at), text.charAt(to)));
                boolean last = at >= text.length();
                if (!takes(last ? "" : text.substring(at, to))) {
                    return at;
                }
                if (last) {
                    return -1;
                }
                at = to;
            }
        }

        private static boolean joins(char one, char next) {
            return letter(one) && letter(next) || digit(one) && digit(next);
        }

        private static boolean letter(char sign) {
            return sign >= 'a' && sign <= 'z';
        }

        private static boolean digit(char sign) {
            return sign >= '0' && sign <= '9';
        }

        private boolean takes(String token) {
            return switch (state) {
                case HEAD -> takesHead(token);
                case BEHIND_IN -> token.equals("if") ? to(State.PLAIN) : takesEnd(token);
                case PLAIN -> takesPlain(token);
                case PART -> takesPart(token);
                case BEHIND_PART -> takesBehindPart(token);
                case BEHIND_PLAIN -> takesBehindPlain(token);
            };
        }

        private boolean to(State next) {
            state = next;
            return true;
        }

        private boolean takesEnd(String token) {
            return open.isEmpty() && (token.isEmpty() || token.equals(";") && to(State.HEAD));
        }

        private boolean takesHead(String token) {
            clauses++;
            if (clauses > 12) {
                return false;
            }
            if (SUM_HEADS.contains(token)) {
                open.push('h');
                return to(State.PART);
            }
            return token.equals("in") && to(State.BEHIND_IN);
        }

        private boolean takesPlain(String token) {
            if (token.equals("not")) {
                return true;
            }
            if (token.equals("(")) {
                open.push('(');
                brackets++;
                return brackets <= 8;
            }
            open.push('l');
            return takesPart(token);
        }

        private boolean takesPart(String token) {
            state = State.PART;
            if (token.equals("[")) {
                open.push('[');
                brackets++;
                return brackets <= 8;
            }
            boolean number = token.matches("\\d+") && new BigInteger(token).compareTo(MOST) <= 0;
            if (!number && !PART_WORDS.contains(token)) {
                return false;
            }
            parts++;
            return parts <= 50 && to(State.BEHIND_PART);
        }

        private boolean takesBehindPart(String token) {
            char top = open.peek();
            if (token.matches("[-+*/]")) {
                return to(State.PART);
            }
            if (top == '[') {
                brackets--;
                open.pop();
                return token.equals("]");
            }
            if (top == 'l') {
                open.pop();
                open.push('r');
                return token.matches("[<>=]") && to(State.PART);
            }
            open.pop();
            return top == 'h' ? token.equals("if") ? to(State.PLAIN) : takesEnd(token) : takesBehindPlain(token);
        }

        private boolean takesBehindPlain(String token) {
            state = State.BEHIND_PLAIN;
            if (token.equals("and") || token.equals("or")) {
                return to(State.PLAIN);
            }
            if (token.equals(")") && !open.isEmpty()) {
                brackets--;
                open.pop();
                return true;
            }
            return takesEnd(token);
        }
    }
}
