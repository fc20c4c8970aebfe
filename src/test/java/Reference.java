import java.math.BigInteger;
import java.util.ArrayList;
import java.util.Arrays;
import java.util.Collections;
import java.util.List;
import java.util.function.ToIntFunction;

/** The document's words followed one by one, without regard to cost: what RandomRunsTest holds the class against. */
public final class Reference {
    private static final int NOTHING = -1_000_000;
    private static final int[] FACT_MOST = {5, 9, 9, 9, 7, 23, 9, 9};

    /** A SUM or TEST that is BROKEN. */
    private static final class Broken extends RuntimeException {
        private static final long serialVersionUID = 1L;
    }

    /** A TOKEN that can't go on. */
    private static final class Fault extends RuntimeException {
        private static final long serialVersionUID = 1L;
        final int place;

        Fault(int place) {
            this.place = place;
        }
    }

    private static final class Kid {
        int[] facts = new int[8];
        int dealt = 0;
        int tenths = 0;
        int how = 3;
        int[] later = {-1, -1, -1, -1};

        Kid copy() {
            Kid k = new Kid();
            k.facts = facts.clone();
            k.dealt = dealt;
            k.tenths = tenths;
            k.how = how;
            k.later = later.clone();
            return k;
        }

        boolean tried() {
            return how < 2;
        }
    }

    private static final class State {
        List<Kid> kids = new ArrayList<>();
        List<Program> texts = new ArrayList<>();
        int[] terms = {100, 0, 15};
        int[] meanings = new int[8];

        State copy() {
            State s = new State();
            for (Kid k : kids) {
                s.kids.add(k.copy());
            }
            s.texts.addAll(texts);
            s.terms = terms.clone();
            s.meanings = meanings.clone();
            return s;
        }
    }

    private record Ask(Kid kid, int minute, int waited, int way, int dealt) {
        static Ask of(Kid kid, int minute) {
            return new Ask(kid, minute, kid.tried() ? kid.tenths : 0, kid.facts[5], kid.dealt);
        }
    }

    private interface Sum {
        long value(Ask a);
    }

    private interface Test {
        boolean is(Ask a);
    }

    private record Clause(String head, Sum sum, Test test) {
    }

    private record Program(List<Clause> clauses) {
        Integer tell(String head, Ask a) {
            Integer told = null;
            for (Clause c : clauses) {
                if (!c.head.equals(head)) {
                    continue;
                }
                try {
                    if (c.test == null || c.test.is(a)) {
                        told = c.sum == null ? Integer.valueOf(1) : Integer.valueOf((int) c.sum.value(a));
                    }
                } catch (Broken e) {
                    continue;
                }
            }
            return told;
        }
    }

    private record Token(String text, int place) {
    }

    private static final class Parser {
        private final List<Token> tokens = new ArrayList<>();
        private int at = 0;
        private int parts = 0;
        private int depth = 0;

        Parser(byte[] bytes, int length) {
            int i = 0;
            while (i < length) {
                char ch = (char) (bytes[i] & 255);
                int j = i + 1;
                if (letter(ch)) {
                    while (j < length && letter((char) (bytes[j] & 255))) {
                        j++;
                    }
                } else if (digit(ch)) {
                    while (j < length && digit((char) (bytes[j] & 255))) {
                        j++;
                    }
                }
                if (ch != ' ') {
                    StringBuilder b = new StringBuilder();
                    for (int k = i; k < j; k++) {
                        b.append((char) (bytes[k] & 255));
                    }
                    tokens.add(new Token(b.toString(), i));
                }
                i = j;
            }
            tokens.add(new Token("", length));
        }

        private static boolean letter(char c) {
            return c >= 'a' && c <= 'z';
        }

        private static boolean digit(char c) {
            return c >= '0' && c <= '9';
        }

        private String peek() {
            return tokens.get(at).text;
        }

        private String next() {
            return tokens.get(at++).text;
        }

        private Fault fault() {
            return new Fault(tokens.get(at).place);
        }

        Program parse() {
            List<Clause> all = new ArrayList<>();
            all.add(clause());
            while (!peek().isEmpty()) {
                if (!peek().equals(";")) {
                    throw fault();
                }
                next();
                if (all.size() == 12) {
                    throw fault();
                }
                all.add(clause());
            }
            return new Program(all);
        }

        private Clause clause() {
            String head = peek();
            if (!List.of("chance", "waits", "later", "in").contains(head)) {
                throw fault();
            }
            next();
            Sum sum = head.equals("in") ? null : sum();
            Test test = null;
            if (peek().equals("if")) {
                next();
                test = test();
            }
            return new Clause(head, sum, test);
        }

        private Test test() {
            Test t = both();
            while (peek().equals("or")) {
                next();
                Test l = t;
                Test r = both();
                t = a -> l.is(a) || r.is(a);
            }
            return t;
        }

        private Test both() {
            Test t = plain();
            while (peek().equals("and")) {
                next();
                Test l = t;
                Test r = plain();
                t = a -> l.is(a) && r.is(a);
            }
            return t;
        }

        private Test plain() {
            if (peek().equals("not")) {
                next();
                Test t = plain();
                return a -> !t.is(a);
            }
            if (peek().equals("(")) {
                open();
                Test t = test();
                close(")");
                return t;
            }
            Sum l = sum();
            String op = peek();
            if (!op.equals("<") && !op.equals(">") && !op.equals("=")) {
                throw fault();
            }
            next();
            Sum r = sum();
            return switch (op) {
                case "<" -> a -> l.value(a) < r.value(a);
                case ">" -> a -> l.value(a) > r.value(a);
                default -> a -> l.value(a) == r.value(a);
            };
        }

        private void open() {
            if (depth == 8) {
                throw fault();
            }
            depth++;
            next();
        }

        private void close(String sign) {
            if (!peek().equals(sign)) {
                throw fault();
            }
            depth--;
            next();
        }

        private Sum sum() {
            Sum s = term();
            while (peek().equals("+") || peek().equals("-")) {
                long sign = next().equals("+") ? 1 : -1;
                Sum l = s;
                Sum r = term();
                s = a -> bound(l.value(a) + sign * r.value(a));
            }
            return s;
        }

        private Sum term() {
            Sum s = part();
            while (peek().equals("*") || peek().equals("/")) {
                boolean times = next().equals("*");
                Sum l = s;
                Sum r = part();
                s = a -> {
                    long x = l.value(a);
                    long y = r.value(a);
                    if (!times && y == 0) {
                        throw new Broken();
                    }
                    return bound(times ? x * y : x / y);
                };
            }
            return s;
        }

        private static long bound(long n) {
            if (Math.abs(n) > 1_000_000_000L) {
                throw new Broken();
            }
            return n;
        }

        private Sum part() {
            String t = peek();
            if (t.equals("[")) {
                open();
                Sum s = sum();
                close("]");
                return s;
            }
            Sum s = null;
            if (!t.isEmpty() && digit(t.charAt(0)) && new BigInteger(t).compareTo(BigInteger.valueOf(1000)) <= 0) {
                int n = Integer.parseInt(new BigInteger(t).toString());
                s = a -> n;
            } else {
                s = word(t);
            }
            if (s == null || parts == 50) {
                throw fault();
            }
            parts++;
            next();
            return s;
        }

        private static Sum word(String t) {
            return switch (t) {
                case "house" -> a -> a.kid.facts[0];
                case "wit" -> a -> a.kid.facts[1];
                case "likes" -> a -> a.kid.facts[2];
                case "hungry" -> a -> a.kid.facts[3];
                case "nursery" -> a -> a.kid.facts[4];
                case "way" -> a -> a.way;
                case "kept" -> a -> a.kid.facts[6];
                case "broken" -> a -> a.kid.facts[7];
                case "dealt" -> a -> a.dealt;
                case "minute" -> a -> a.minute;
                case "waited" -> a -> a.waited;
                default -> null;
            };
        }
    }

    private static final class World {
        List<Kid> kids = new ArrayList<>();
        List<int[]> told = new ArrayList<>();
    }

    private State now = new State();
    private final State[] images = new State[2];
    private byte[] tape = new byte[0];
    private int faultPlace = -1;
    private World world = null;
    private final int[] refused = new int[11];
    private int status = 0;
    private long s = 0;

    private int no(int why) {
        status = why;
        refused[switch (why) {
            case -1 -> 6;
            case -2 -> 7;
            case -3 -> 8;
            case -5 -> 9;
            default -> 10;
        }]++;
        return why;
    }

    private int yes(int answer) {
        status = 0;
        return answer;
    }

    private static boolean in(int n, int low, int high) {
        return n >= low && n <= high;
    }

    private boolean child(int c) {
        return c >= 0 && c < now.kids.size();
    }

    private boolean text(int t) {
        return t >= 0 && t < now.texts.size();
    }

    private boolean groupThere(int t) {
        return t == -1 || text(t);
    }

    private List<Integer> members(int t) {
        List<Integer> out = new ArrayList<>();
        for (int i = 0; i < now.kids.size(); i++) {
            if (t == -1 || now.texts.get(t).tell("in", Ask.of(now.kids.get(i), 0)) != null) {
                out.add(i);
            }
        }
        return out;
    }

    private Kid kid(int i) {
        return now.kids.get(i);
    }

    private int thing(int i) {
        return kid(i).later[now.terms[1]];
    }

    private int side(int i) {
        Kid k = kid(i);
        if (!k.tried()) {
            return 0;
        }
        return k.tenths >= now.terms[0] ? 1 : k.how == 0 ? 2 : 0;
    }

    public int child(int house, int wit, int likes, int hungry, int nursery, int way) {
        int[] f = {house, wit, likes, hungry, nursery, way, 0, 0};
        for (int i = 0; i < 6; i++) {
            if (!in(f[i], 0, FACT_MOST[i])) {
                return no(-1);
            }
        }
        if (now.kids.size() == 120) {
            return no(-5);
        }
        Kid k = new Kid();
        k.facts = f;
        now.kids.add(k);
        return yes(now.kids.size() - 1);
    }

    public int fact(int child, int fact, int value) {
        if (!in(fact, 0, 7) || !in(value, 0, FACT_MOST[fact])) {
            return no(-1);
        }
        if (!child(child)) {
            return no(-2);
        }
        int was = kid(child).facts[fact];
        kid(child).facts[fact] = value;
        return yes(was);
    }

    public int promise(int child, int kept) {
        if (!in(kept, 0, 1)) {
            return no(-1);
        }
        if (!child(child)) {
            return no(-2);
        }
        int[] f = kid(child).facts;
        return f[7 - kept] == 9 ? no(-3) : yes(++f[7 - kept]);
    }

    public int dealt(int child, int dealt) {
        if (!in(dealt, 0, 2)) {
            return no(-1);
        }
        if (!child(child)) {
            return no(-2);
        }
        int was = kid(child).dealt;
        kid(child).dealt = dealt;
        return yes(was);
    }

    public int minute(int child, int tenths, int how) {
        if (!in(how, 0, 3) || !in(tenths, 0, 200) || how > 1 && tenths != 0) {
            return no(-1);
        }
        if (!child(child)) {
            return no(-2);
        }
        int was = kid(child).how;
        kid(child).how = how;
        kid(child).tenths = tenths;
        return yes(was);
    }

    public int later(int child, int thing, int value) {
        if (!in(thing, 0, 3) || !in(value, -1, 999)) {
            return no(-1);
        }
        if (!child(child)) {
            return no(-2);
        }
        int was = kid(child).later[thing];
        kid(child).later[thing] = value;
        return yes(was);
    }

    public int of(int child, int what) {
        if (!child(child) || !in(what, 0, 15)) {
            return -1;
        }
        Kid k = kid(child);
        if (what < 8) {
            return k.facts[what];
        }
        if (what > 10 && what < 15) {
            return k.later[what - 11];
        }
        return what == 8 ? k.dealt : what == 9 ? k.tenths : what == 10 ? k.how : side(child);
    }

    public int terms(int what, int value) {
        boolean can = what == 0 && in(value, 0, 200) || what == 1 && in(value, 0, 3) || what == 2 && in(value, 1, 20);
        if (!can) {
            return no(-1);
        }
        int was = now.terms[what];
        now.terms[what] = value;
        return yes(was);
    }

    public int feed(int a, int b, int c, int d, int e) {
        if (tape.length + 20 > 400) {
            return -1;
        }
        int[] five = {a, b, c, d, e};
        byte[] longer = Arrays.copyOf(tape, tape.length + 20);
        for (int i = 0; i < 20; i++) {
            longer[tape.length + i] = (byte) (five[i / 4] >> 8 * (3 - i % 4));
        }
        tape = longer;
        return tape.length;
    }

    public int end(int n) {
        if (!in(n, 0, tape.length)) {
            return -1;
        }
        tape = Arrays.copyOf(tape, n);
        return n;
    }

    public int row(int child) {
        if (!child(child)) {
            return no(-2);
        }
        if (tape.length == 0) {
            return no(-6);
        }
        int gone = 0;
        for (int i = 0; i * 4 < tape.length && child + i < now.kids.size(); i++) {
            Kid k = kid(child + i);
            k.how = 2;
            k.tenths = 0;
            if (i * 4 + 4 <= tape.length) {
                int n = new BigInteger(Arrays.copyOfRange(tape, i * 4, i * 4 + 4)).intValue();
                if (in(n, 0, 200)) {
                    k.how = 0;
                    k.tenths = n;
                } else if (in(n, -201, -1)) {
                    k.how = 1;
                    k.tenths = -n - 1;
                }
            }
            gone += k.how == 2 ? 1 : 0;
        }
        tape = new byte[0];
        return yes(gone);
    }

    public int text() {
        byte[] bytes = tape;
        tape = new byte[0];
        if (now.texts.size() == 10) {
            return no(-5);
        }
        try {
            now.texts.add(new Parser(bytes, bytes.length).parse());
            faultPlace = -1;
            return yes(now.texts.size() - 1);
        } catch (Fault f) {
            faultPlace = f.place;
            return no(-6);
        }
    }

    public int fault() {
        return faultPlace;
    }

    public int group(int text, int what) {
        if (!groupThere(text) || !in(what, 0, 5)) {
            return -1;
        }
        int n = 0;
        for (int i : members(text)) {
            boolean is = switch (what) {
                case 0 -> true;
                case 1 -> kid(i).tried();
                case 2 -> kid(i).how == 1;
                case 3 -> side(i) == 1;
                case 4 -> side(i) == 2;
                default -> thing(i) >= 0;
            };
            n += is ? 1 : 0;
        }
        return n;
    }

    public int member(int text, int i) {
        return groupThere(text) && in(i, 0, members(text).size() - 1) ? members(text).get(i) : -1;
    }

    private BigInteger[] stay(int text, int tenths) {
        BigInteger up = BigInteger.ONE;
        BigInteger down = BigInteger.ONE;
        List<Integer> group = members(text);
        for (int t = 0; t <= tenths; t++) {
            int took = 0;
            int there = 0;
            for (int i : group) {
                Kid k = kid(i);
                took += k.how == 0 && k.tenths == t ? 1 : 0;
                there += k.tried() && k.tenths >= t ? 1 : 0;
            }
            if (took > 0) {
                up = up.multiply(BigInteger.valueOf(there - took));
                down = down.multiply(BigInteger.valueOf(there));
            }
        }
        return new BigInteger[] {up, down};
    }

    private static int millionths(BigInteger up, BigInteger down) {
        return up.multiply(BigInteger.valueOf(1_000_000)).divide(down).intValueExact();
    }

    public int stays(int text, int tenths) {
        if (!groupThere(text) || !in(tenths, 0, 200)) {
            return -1;
        }
        BigInteger[] r = stay(text, tenths);
        return millionths(r[0], r[1]);
    }

    public int half(int text) {
        for (int t = 0; t <= 200 && groupThere(text); t++) {
            BigInteger[] r = stay(text, t);
            if (r[0].shiftLeft(1).compareTo(r[1]) <= 0) {
                return t;
            }
        }
        return -1;
    }

    public int right(int text, int from, int to) {
        if (!groupThere(text) || !in(from, 0, 200) || !in(to, 0, 200) || to < from) {
            return -1;
        }
        BigInteger[] b = stay(text, from);
        BigInteger[] a = stay(text, to);
        return b[0].signum() == 0 ? -1 : millionths(a[0].multiply(b[1]), a[1].multiply(b[0]));
    }

    public int goneOn(int text) {
        if (!groupThere(text)) {
            return -1;
        }
        BigInteger[][] all = new BigInteger[201][];
        for (int t = 0; t <= 200; t++) {
            all[t] = stay(text, t);
        }
        int sum = 0;
        for (int i : members(text)) {
            if (kid(i).how != 1) {
                continue;
            }
            BigInteger[] own = all[kid(i).tenths];
            int to = 200;
            for (int t = 200; t >= kid(i).tenths && own[0].signum() > 0; t--) {
                BigInteger less = all[t][0].multiply(own[1]).shiftLeft(1);
                if (less.compareTo(own[0].multiply(all[t][1])) <= 0) {
                    to = t;
                }
            }
            sum += to;
        }
        return sum;
    }

    private static int clamp(Integer told, int without, int low, int high) {
        return told == null ? without : Math.min(high, Math.max(low, told));
    }

    private int chance(Program p, Kid k, int minute) {
        return clamp(p.tell("chance", Ask.of(k, minute)), 50, 1, 99);
    }

    public int chance(int text, int child, int minute) {
        return text(text) && child(child) && in(minute, 0, 19) ? chance(now.texts.get(text), kid(child), minute) : -1;
    }

    private BigInteger weight(int text, int group) {
        BigInteger w = BigInteger.ONE;
        Program p = now.texts.get(text);
        for (int i : members(group)) {
            Kid k = kid(i);
            if (!k.tried()) {
                continue;
            }
            for (int m = 0; m < k.tenths / 10; m++) {
                w = w.multiply(BigInteger.valueOf(100 - chance(p, k, m)));
            }
            if (k.how == 0 && k.tenths < 200) {
                w = w.multiply(BigInteger.valueOf(chance(p, k, k.tenths / 10)));
            }
        }
        return w;
    }

    /** Products of 100ths with as many factors: what cancels is left out. */
    public int times(int text, int other, int group) {
        if (!text(text) || !text(other) || !groupThere(group)) {
            return -1;
        }
        BigInteger q = weight(text, group).divide(weight(other, group));
        return q.min(BigInteger.valueOf(1_000_000)).intValue();
    }

    public int likely(int group) {
        if (now.texts.isEmpty() || !groupThere(group)) {
            return -1;
        }
        int best = 0;
        for (int t = 1; t < now.texts.size(); t++) {
            best = weight(t, group).compareTo(weight(best, group)) > 0 ? t : best;
        }
        return best;
    }

    private int waits(Program p, Ask a) {
        return clamp(p.tell("waits", a), 0, 0, 10 * now.terms[2]);
    }

    public int waits(int text, int child) {
        return text(text) && child(child) ? waits(now.texts.get(text), Ask.of(kid(child), 0)) : -1;
    }

    private List<Integer> parted(int text, int other, int group, int way, int dealt) {
        List<Integer> out = new ArrayList<>();
        for (int i : members(group)) {
            Ask own = Ask.of(kid(i), 0);
            Ask a = new Ask(own.kid, 0, own.waited, way, dealt);
            out.add(Math.abs(waits(now.texts.get(text), a) - waits(now.texts.get(other), a)));
        }
        return out;
    }

    public int parts(int text, int other, int group, int way, int dealt) {
        if (!text(text) || !text(other) || !groupThere(group) || !in(way, 0, 23) || !in(dealt, 0, 2)) {
            return -1;
        }
        return parted(text, other, group, way, dealt).stream().mapToInt(n -> n).sum();
    }

    public int trial(int text, int other, int group) {
        if (!text(text) || !text(other) || !groupThere(group)) {
            return -1;
        }
        int best = 0;
        for (int t = 1; t < 72; t++) {
            if (parts(text, other, group, t / 3, t % 3) > parts(text, other, group, best / 3, best % 3)) {
                best = t;
            }
        }
        return best;
    }

    public int fewest(int text, int other, int group, int way, int dealt, int much) {
        if (parts(text, other, group, way, dealt) < 0 || !in(much, 0, 100_000)) {
            return -1;
        }
        List<Integer> all = parted(text, other, group, way, dealt);
        all.sort(Collections.reverseOrder());
        int sum = 0;
        for (int n = 0; n <= all.size(); n++) {
            if (sum >= much) {
                return n;
            }
            sum += n < all.size() ? all.get(n) : 0;
        }
        return -1;
    }

    public int bounds(int text, int what) {
        if (!groupThere(text) || !in(what, 0, 2)) {
            return -1;
        }
        int sum = 0;
        int n = 0;
        for (int i : members(text)) {
            int thing = thing(i);
            if (thing >= 0 || what > 0) {
                n++;
                sum += thing >= 0 ? thing : what == 1 ? 0 : 999;
            }
        }
        return n == 0 ? -1 : sum * 100 / n;
    }

    public int apart(int text, int other, int what) {
        if (!in(what, 0, 1) || bounds(text, 1) < 0 || bounds(other, 1) < 0) {
            return NOTHING;
        }
        return what == 0 ? bounds(text, 1) - bounds(other, 2) : bounds(text, 2) - bounds(other, 1);
    }

    public int meaning(int fact, int meaning) {
        if (!in(fact, 0, 7) || !in(meaning, 0, 2)) {
            return no(-1);
        }
        int was = now.meanings[fact];
        now.meanings[fact] = meaning;
        return yes(was);
    }

    private static boolean alike(Kid a, Kid b, int facts) {
        for (int f = 0; f < 8; f++) {
            if ((facts & 1 << f) != 0 && a.facts[f] != b.facts[f]) {
                return false;
            }
        }
        return true;
    }

    /** WON, LOST, EVEN of those of some children who are within a WAY (-1: any). */
    private int[] tally(List<Integer> group, int facts, int way, ToIntFunction<Integer> thing) {
        int[] out = new int[3];
        for (int a : group) {
            for (int b : group) {
                boolean pair = side(a) == 1 && side(b) == 2 && thing(a) >= 0 && thing(b) >= 0;
                boolean inWay = way < 0 || kid(a).facts[5] == way && kid(b).facts[5] == way;
                if (pair && inWay && alike(kid(a), kid(b), facts)) {
                    int d = thing.applyAsInt(a) - thing.applyAsInt(b);
                    out[d > 0 ? 0 : d < 0 ? 1 : 2]++;
                }
            }
        }
        return out;
    }

    public int pairs(int text, int facts, int what) {
        if (!groupThere(text) || !in(facts, 0, 255) || !in(what, 0, 2)) {
            return -1;
        }
        return tally(members(text), facts, -1, this::thing)[what];
    }

    public int beside(int text, int what) {
        if (!groupThere(text) || !in(what, 0, 3)) {
            return NOTHING;
        }
        int causes = 0;
        for (int f = 0; f < 6; f++) {
            causes += now.meanings[f] == 0 ? 1 << f : 0;
        }
        if (what == 0) {
            return causes;
        }
        if (what < 3) {
            int[] t = tally(members(text), what == 1 ? causes : 0, -1, this::thing);
            return t[0] - t[1];
        }
        int best = -1;
        int least = Integer.MAX_VALUE;
        List<Integer> group = members(text);
        for (int f = 0; f < 256; f++) {
            int[] t = tally(group, f, -1, this::thing);
            if (t[0] + t[1] > 0 && Math.abs(t[0] - t[1]) < least) {
                least = Math.abs(t[0] - t[1]);
                best = f;
            }
        }
        return best;
    }

    public int hides(int facts) {
        if (!in(facts, 0, 255)) {
            return -1;
        }
        int out = 0;
        for (int f = 0; f < 8; f++) {
            out += (facts >> f) % 2 == 1 && now.meanings[f] > 0 ? 1 << f : 0;
        }
        return out;
    }

    private int score(int way, ToIntFunction<Integer> thing) {
        int[] t = tally(members(-1), 0, way, thing);
        return t[0] - t[1];
    }

    public int looked(int way) {
        return in(way, 0, 23) ? score(way, this::thing) : NOTHING;
    }

    public int best() {
        int best = 0;
        for (int w = 0; w < 24; w++) {
            best = looked(w) > looked(best) ? w : best;
        }
        return best;
    }

    private int draw(int n) {
        s = (s * 1103 + 12345) % 1_000_003;
        return (int) (s % n);
    }

    public int paid(int shuffles, int seed) {
        if (!in(shuffles, 1, 100) || !in(seed, 0, 1_000_000)) {
            return -1;
        }
        s = seed;
        int bar = looked(best());
        List<Integer> found = new ArrayList<>();
        List<Integer> things = new ArrayList<>();
        for (int i = 0; i < now.kids.size(); i++) {
            if (thing(i) >= 0) {
                found.add(i);
                things.add(thing(i));
            }
        }
        int n = 0;
        for (int k = 0; k < shuffles; k++) {
            for (int i = things.size() - 1; i >= 1; i--) {
                Collections.swap(things, i, draw(i + 1));
            }
            int most = Integer.MIN_VALUE;
            for (int w = 0; w < 24; w++) {
                most = Math.max(most, score(w, c -> things.get(found.indexOf(c))));
            }
            n += most >= bar ? 1 : 0;
        }
        return n;
    }

    private boolean longer(Kid a, Kid b) {
        return b.how == 0 && (a.how == 0 && a.tenths > b.tenths || a.how == 1 && a.tenths >= b.tenths);
    }

    private int lasting(List<Integer> one, List<Integer> two, int what) {
        int[] n = new int[4];
        for (int i : one) {
            for (int k : two) {
                Kid a = kid(i);
                Kid b = kid(k);
                if (i != k && a.tried() && b.tried()) {
                    boolean even = a.how == 0 && b.how == 0 && a.tenths == b.tenths;
                    n[longer(a, b) ? 0 : longer(b, a) ? 1 : even ? 2 : 3]++;
                }
            }
        }
        return n[what];
    }

    public int lasts(int text, int other, int what) {
        if (!groupThere(text) || !groupThere(other) || !in(what, 0, 3)) {
            return -1;
        }
        return lasting(members(text), members(other), what);
    }

    public int trust(int what) {
        if (!in(what, 0, 3)) {
            return -1;
        }
        List<Integer> one = new ArrayList<>(members(-1));
        List<Integer> two = new ArrayList<>(members(-1));
        one.removeIf(i -> kid(i).dealt != 1);
        two.removeIf(i -> kid(i).dealt != 2);
        return lasting(one, two, what);
    }

    public int run(int text, int seed) {
        if (!in(seed, 0, 1_000_000)) {
            return no(-1);
        }
        if (!text(text)) {
            return no(-2);
        }
        s = seed;
        Program p = now.texts.get(text);
        world = new World();
        int waited = 0;
        for (Kid k : now.kids) {
            int m = 0;
            boolean takes = false;
            while (m < now.terms[2] && !takes) {
                takes = draw(100) < chance(p, k, m);
                m += takes ? 0 : 1;
            }
            waited += takes ? 0 : 1;
            Ask a = new Ask(k.copy(), 0, 10 * m, k.facts[5], k.dealt);
            world.kids.add(a.kid);
            world.told.add(new int[] {m, takes ? 1 : 0, clamp(p.tell("later", a), 0, 0, 999)});
        }
        return yes(waited);
    }

    public int world(int child, int what) {
        if (world == null || !in(what, 0, 2) || !in(child, -1, world.kids.size() - 1)) {
            return -1;
        }
        return child == -1 ? world.told.stream().mapToInt(t -> t[what]).sum() : world.told.get(child)[what];
    }

    public int drawn(int facts) {
        if (world == null || !in(facts, 0, 255)) {
            return NOTHING;
        }
        int n = 0;
        for (int a = 0; a < world.kids.size(); a++) {
            for (int b = 0; b < world.kids.size(); b++) {
                int[] x = world.told.get(a);
                int[] y = world.told.get(b);
                if (x[1] == 0 && y[1] == 1 && alike(world.kids.get(a), world.kids.get(b), facts)) {
                    n += Integer.signum(x[2] - y[2]);
                }
            }
        }
        return n;
    }

    public int like(int child, int facts, int what) {
        if (!child(child) || !in(facts, 0, 255) || !in(what, 0, 4) || what == 4 && thing(child) < 0) {
            return -1;
        }
        int n = 0;
        for (int i = 0; i < now.kids.size(); i++) {
            if (i == child || !alike(kid(i), kid(child), facts)) {
                continue;
            }
            boolean is = switch (what) {
                case 0 -> true;
                case 1, 2 -> side(i) == what;
                case 3 -> thing(i) >= 0;
                default -> thing(i) > thing(child);
            };
            n += is ? 1 : 0;
        }
        return n;
    }

    public int image(int k) {
        if (!in(k, 0, 1)) {
            return no(-1);
        }
        images[k] = now.copy();
        return yes(0);
    }

    public int back(int k) {
        if (!in(k, 0, 1)) {
            return no(-1);
        }
        if (images[k] == null) {
            return no(-2);
        }
        now = images[k].copy();
        return yes(0);
    }

    public int count(int what) {
        if (what == 0) {
            return now.kids.size();
        }
        if (what == 1) {
            return now.texts.size();
        }
        if (what == 2) {
            return group(-1, 1);
        }
        if (what == 3) {
            return (int) now.kids.stream().filter(k -> k.how == 2).count();
        }
        if (what == 4) {
            return group(-1, 5);
        }
        if (what == 5) {
            return tape.length;
        }
        return in(what, 6, 10) ? refused[what] : -1;
    }

    public int status() {
        return status;
    }
}
