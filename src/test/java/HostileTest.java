import java.lang.reflect.Method;
import java.lang.reflect.Modifier;
import java.util.ArrayList;
import java.util.List;
import java.util.Random;

/** No call throws, whatever its numbers, in an empty, a plain and a full object, and beyond 512 calls. */
final class HostileTest {
    private static final int[] ODD = {0, 1, -1, 2, -2, 3, 5, 10, 20, 23, 24, 100, 119, 120, 121, 200, 201, 255, 256, 400,
        999, 1000, 1000000, 1000001, -1000000, Integer.MAX_VALUE, Integer.MIN_VALUE, Integer.MAX_VALUE - 1,
        Integer.MIN_VALUE + 1, 143165577, 1 << 30, 1 << 28};

    public static void main(String[] args) throws Exception {
        Check c = new Check("HostileTest");
        Random random = new Random(5);
        List<Method> calls = new ArrayList<>();
        for (Method m : SweetWaits.class.getDeclaredMethods()) {
            if (Modifier.isPublic(m.getModifiers())) {
                calls.add(m);
            }
        }
        c.due("calls", calls.size(), 45);
        for (int round = 0; round < 60; round++) {
            SweetWaits x = round % 3 == 0 ? new SweetWaits() : full(round % 3 == 1 ? 5 : 120);
            for (int i = 0; i < 4000; i++) {
                Method m = calls.get(random.nextInt(calls.size()));
                Object[] numbers = new Object[m.getParameterCount()];
                for (int k = 0; k < numbers.length; k++) {
                    numbers[k] = ODD[random.nextInt(ODD.length)];
                }
                m.invoke(x, numbers);
            }
            c.so("children are within bounds", x.count(0) >= 0 && x.count(0) <= 120);
            c.so("bytes are within bounds", x.count(5) >= 0 && x.count(5) <= 400);
        }
        bytes(c, random);
        c.end();
    }

    private static SweetWaits full(int children) {
        SweetWaits x = new SweetWaits();
        for (int i = 0; i < children; i++) {
            x.child(i % 6, i % 10, i % 3, i % 2, i % 8, i % 24);
            x.minute(i, 13 * i % 201, i % 2);
            x.later(i, 0, 7 * i % 1000);
        }
        for (int i = 0; i < 10; i++) {
            Check.text(x, "chance 1+minute*wit/house;waits way*dealt+" + i + ";later waited*wit;in if not wit=" + i);
        }
        return x;
    }

    /** TEXTS of drawn bytes and of drawn TOKENS. */
    private static void bytes(Check c, Random random) {
        String[] tokens = {"in", "chance", "waits", "later", "if", "not", "and", "or", "(", ")", "[", "]", "wit", "way",
            "minute", "5", "1000", "<", ">", "=", "+", "-", "*", "/", ";", " "};
        for (int round = 0; round < 20000; round++) {
            StringBuilder b = new StringBuilder();
            int length = random.nextInt(60);
            for (int i = 0; i < length; i++) {
                if (round % 4 == 0) {
                    b.append((char) random.nextInt(256));
                } else {
                    b.append(tokens[random.nextInt(tokens.length)]).append(random.nextInt(3) == 0 ? "" : " ");
                }
            }
            String text = b.length() > 400 ? b.substring(0, 400) : b.toString();
            SweetWaits x = new SweetWaits();
            int number = Check.text(x, text);
            int fault = x.fault();
            c.so("a fault or none", number == 0 ? fault == -1 : fault >= 0 && fault <= text.length());
        }
    }
}
