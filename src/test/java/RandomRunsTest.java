import java.lang.reflect.Method;
import java.lang.reflect.Modifier;
import java.util.ArrayList;
import java.util.Arrays;
import java.util.Comparator;
import java.util.List;
import java.util.Random;

/** Runs of 512 drawn calls, each answered by the class and by the Reference alike: all promises. */
final class RandomRunsTest {
    private static final int RUNS = 1500;
    private static final int[] ODD = {-1, -2, -1000000, Integer.MIN_VALUE, Integer.MAX_VALUE, 120, 10, 256, 24, 201, 3};

    private final Random random;
    private final SweetWaits x = new SweetWaits();
    private final Reference y = new Reference();
    private final Check check;
    private final List<String> told = new ArrayList<>();
    private boolean wrong = false;

    private RandomRunsTest(long seed, Check check) {
        this.random = new Random(seed);
        this.check = check;
    }

    public static void main(String[] args) throws Exception {
        Check check = new Check("RandomRunsTest");
        for (int run = 0; run < RUNS; run++) {
            RandomRunsTest one = new RandomRunsTest(run, check);
            one.go();
            if (one.wrong) {
                System.out.println("run " + run + ": " + String.join(" ", one.told));
                break;
            }
        }
        check.end();
    }

    private static final Method[] CALLS = calls();

    private static Method[] calls() {
        List<Method> all = new ArrayList<>();
        for (Method m : SweetWaits.class.getDeclaredMethods()) {
            if (Modifier.isPublic(m.getModifiers())) {
                all.add(m);
            }
        }
        all.sort(Comparator.comparing(Method::getName));
        return all.toArray(new Method[0]);
    }

    private static final java.util.Map<String, Method[]> BY_NAME = byName();

    private static java.util.Map<String, Method[]> byName() {
        java.util.Map<String, Method[]> map = new java.util.HashMap<>();
        try {
            for (Method m : CALLS) {
                map.put(m.getName(), new Method[] {m, Reference.class.getMethod(m.getName(), m.getParameterTypes())});
            }
        } catch (NoSuchMethodException e) {
            throw new IllegalStateException(e);
        }
        return map;
    }

    private int call(String name, int... args) throws Exception {
        Object[] boxed = Arrays.stream(args).boxed().toArray();
        Method[] pair = BY_NAME.get(name);
        int got = (int) pair[0].invoke(x, boxed);
        int want = (int) pair[1].invoke(y, boxed);
        String words = name + Arrays.toString(args);
        told.add(words);
        check.due(words, got, want);
        wrong = wrong || got != want;
        return got;
    }

    private int pick(int n) {
        return random.nextInt(n);
    }

    private int range(int low, int high) {
        return pick(40) == 0 ? ODD[pick(ODD.length)] : low + pick(high - low + 1);
    }

    private void go() throws Exception {
        int kids = pick(4) == 0 ? 1 + pick(125) : 1 + pick(20);
        int few = 1 + pick(6);
        for (int i = 0; i < kids; i++) {
            int house = pick(Math.min(few, 6));
            call("child", house, pick(few), pick(few), pick(2), pick(Math.min(few, 8)), pick(few));
        }
        if (pick(3) > 0) {
            fillRow();
        }
        for (int i = 1 + pick(4); i > 0; i--) {
            putText();
        }
        while (told.size() < 512 && !wrong) {
            step();
        }
    }

    private void step() throws Exception {
        switch (pick(14)) {
            case 0 -> putText();
            case 1 -> call("minute", someChild(), range(0, 200), pick(2));
            case 2 -> call("later", someChild(), pick(2), range(-1, 999));
            case 3 -> call("later", someChild(), 0, pick(8));
            case 4 -> {
                if (pick(4) == 0) {
                    fillRow();
                }
            }
            default -> anyCall(CALLS[pick(CALLS.length)].getName());
        }
    }

    private int someChild() {
        int n = x.count(0);
        return pick(30) == 0 ? range(-3, 121) : n == 0 ? 0 : pick(n);
    }

    private int someText() {
        int n = x.count(1);
        return pick(20) == 0 ? range(-3, 11) : n == 0 ? 0 : pick(n);
    }

    private int someGroup() {
        return pick(3) == 0 ? -1 : someText();
    }

    private int seed() {
        return pick(10) == 0 ? range(1000000, 1000001) : range(0, 1000000);
    }

    private void anyCall(String name) throws Exception {
        switch (name) {
            case "child" -> call(name, range(0, 5), range(0, 9), range(0, 9), range(0, 9), range(0, 7), range(0, 23));
            case "fact" -> call(name, someChild(), range(0, 8), pick(3) == 0 ? range(0, 24) : range(0, 3));
            case "promise" -> call(name, pick(3) == 0 ? 0 : someChild(), range(0, 1));
            case "dealt" -> call(name, someChild(), range(0, 2));
            case "minute" -> call(name, someChild(), pick(3) == 0 ? range(0, 201) : 10 * pick(20), range(0, 4));
            case "later" -> call(name, someChild(), range(0, 3), range(-1, 999));
            case "of" -> call(name, someChild(), range(0, 16));
            case "terms" -> terms();
            case "feed" -> call(name, pick(300) - 210, random.nextInt(), pick(300) - 210, random.nextInt(), pick(200));
            case "end" -> call(name, range(0, 40));
            case "row" -> call(name, someChild());
            case "text" -> call(name);
            case "group" -> call(name, someGroup(), range(0, 6));
            case "member" -> call(name, someGroup(), range(0, 20));
            case "stays" -> call(name, someGroup(), range(0, 201));
            case "half", "goneOn", "likely" -> call(name, someGroup());
            case "right" -> call(name, someGroup(), range(0, 100), range(50, 201));
            case "chance" -> call(name, someText(), someChild(), range(0, 20));
            case "times", "trial" -> call(name, someText(), someText(), someGroup());
            case "waits" -> call(name, someText(), someChild());
            case "parts" -> call(name, someText(), someText(), someGroup(), range(0, 24), range(0, 3));
            case "fewest" -> call(name, someText(), someText(), someGroup(), range(0, 23), range(0, 2), much());
            case "bounds" -> call(name, someGroup(), range(0, 3));
            case "apart" -> call(name, someGroup(), someGroup(), range(0, 2));
            case "meaning" -> call(name, range(0, 8), range(0, 3));
            case "pairs" -> call(name, someGroup(), facts(), range(0, 3));
            case "beside" -> call(name, someGroup(), pick(8) > 0 ? range(0, 2) : range(3, 4));
            case "hides", "drawn" -> call(name, facts());
            case "looked" -> call(name, range(0, 24));
            case "paid" -> call(name, pick(9) > 0 ? range(1, 3) : range(0, 9), seed());
            case "lasts" -> call(name, someGroup(), someGroup(), range(0, 4));
            case "trust" -> call(name, range(0, 4));
            case "run" -> call(name, someText(), seed());
            case "world" -> call(name, pick(4) == 0 ? -1 : someChild(), range(0, 3));
            case "like" -> call(name, someChild(), facts(), range(0, 5));
            case "image", "back" -> call(name, pick(4) == 0 ? range(0, 2) : pick(2));
            case "count" -> call(name, range(0, 11));
            default -> call(name);
        }
    }

    private void terms() throws Exception {
        switch (pick(3)) {
            case 0 -> call("terms", 0, range(0, 201));
            case 1 -> call("terms", pick(5) == 0 ? range(-1, 3) : 1, range(0, 4));
            default -> call("terms", 2, range(0, 21));
        }
    }

    private int much() {
        return pick(4) == 0 ? range(0, 100001) : range(0, 500);
    }

    private int facts() {
        return pick(3) == 0 ? range(0, 256) : 1 << pick(8) | (pick(2) == 0 ? 0 : 1 << pick(8));
    }

    private void fillRow() throws Exception {
        call("end", 0);
        for (int i = 1 + pick(20); i > 0; i--) {
            call("feed", someWait(), someWait(), someWait(), someWait(), someWait());
        }
        if (pick(3) == 0) {
            call("end", pick(x.count(5) + 1));
        }
        call("row", pick(4) == 0 ? someChild() : 0);
    }

    private int someWait() {
        return pick(30) == 0 ? ODD[pick(ODD.length)] : pick(5) == 0 ? -1 - pick(203) : pick(202);
    }

    private void putText() throws Exception {
        if (pick(10) > 0) {
            call("end", 0);
        }
        StringBuilder b = new StringBuilder(new Texts(random).clauses());
        for (int i = pick(8) == 0 ? 1 + pick(2) : 0; i > 0; i--) {
            spoil(b);
        }
        String t = b.length() > 400 ? b.substring(0, 400) : b.toString();
        int had = x.count(5);
        for (int at = 0; at < t.length(); at += 20) {
            int[] five = new int[5];
            for (int i = 0; i < 20; i++) {
                int ch = at + i < t.length() ? t.charAt(at + i) : ' ';
                five[i / 4] = five[i / 4] << 8 | ch;
            }
            call("feed", five);
        }
        call("end", had + t.length());
        call("text");
        call("fault");
        call("status");
    }

    private void spoil(StringBuilder b) {
        int at = pick(b.length() + 1);
        if (pick(2) == 0 && at < b.length()) {
            b.deleteCharAt(at);
        } else {
            b.insert(at, " ;()[]<>=+-*/09anfi\0Z\n".charAt(pick(22)));
        }
    }

    /** Draws TEXTS by the grammar. */
    private static final class Texts {
        private static final String[] WORDS = {"house", "wit", "likes", "hungry", "nursery", "way", "kept", "broken",
            "dealt", "minute", "waited"};
        private final Random random;

        Texts(Random random) {
            this.random = random;
        }

        private int pick(int n) {
            return random.nextInt(n);
        }

        String clauses() {
            StringBuilder b = new StringBuilder();
            for (int i = pick(12) == 0 ? 10 + pick(4) : 1 + pick(4); i > 0; i--) {
                b.append(clause()).append(i > 1 ? ";" : "");
            }
            return b.toString();
        }

        private String gap() {
            return pick(8) == 0 ? "  " : " ";
        }

        private String clause() {
            String head = new String[] {"chance", "waits", "later", "in"}[pick(4)];
            String sum = head.equals("in") ? "" : gap() + sum(0);
            String small = head.equals("chance") && pick(2) == 0 ? " " + (1 + pick(20)) : sum;
            return head + small + (pick(2) == 0 ? "" : " if" + gap() + test(0));
        }

        private String test(int depth) {
            String t = both(depth);
            while (pick(4) == 0) {
                t += " or " + both(depth);
            }
            return t;
        }

        private String both(int depth) {
            String t = plain(depth);
            while (pick(4) == 0) {
                t += " and " + plain(depth);
            }
            return t;
        }

        private String plain(int depth) {
            int n = pick(8);
            if (n == 0) {
                return "not" + gap() + plain(depth);
            }
            if (n == 1 && depth < 10) {
                return "(" + test(depth + 1) + ")";
            }
            return sum(depth) + gap() + "<>=".charAt(pick(3)) + sum(depth);
        }

        private String sum(int depth) {
            String t = term(depth);
            while (pick(3) == 0) {
                t += (pick(2) == 0 ? "+" : " - ") + term(depth);
            }
            return t;
        }

        private String term(int depth) {
            String t = part(depth);
            while (pick(4) == 0) {
                t += (pick(2) == 0 ? "*" : "/") + part(depth);
            }
            return t;
        }

        private String part(int depth) {
            int n = pick(20);
            if (n < 2 && depth < 10) {
                return "[" + sum(depth + (pick(2) == 0 ? 0 : 1)) + "]";
            }
            if (n < 8) {
                return Integer.toString(n == 2 ? pick(1002) : pick(60));
            }
            return WORDS[pick(WORDS.length)];
        }
    }
}
