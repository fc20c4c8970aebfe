/** Promises 2 .. 9, 45, 46: children, what is put to them, terms, counts of refusals, status. */
final class ChildrenTest {
    private static final int[] MOST = {5, 9, 9, 9, 7, 23, 9, 9};

    public static void main(String[] args) {
        Check c = new Check("ChildrenTest");
        child(c);
        fact(c);
        promise(c);
        dealt(c);
        minute(c);
        later(c);
        of(c);
        terms(c);
        refusedInOrder(c);
        c.end();
    }

    private static void child(Check c) {
        SweetWaits x = new SweetWaits();
        for (int fact = 0; fact < 6; fact++) {
            int[] f = new int[6];
            f[fact] = -1;
            c.due("child, fact " + fact + " below", x.child(f[0], f[1], f[2], f[3], f[4], f[5]), -1);
            f[fact] = MOST[fact] + 1;
            c.due("child, fact " + fact + " above", x.child(f[0], f[1], f[2], f[3], f[4], f[5]), -1);
        }
        c.due("count(0)", x.count(0), 0);
        c.due("count(6)", x.count(6), 12);
        c.due("child at most", x.child(5, 9, 9, 9, 7, 23), 0);
        c.due("status", x.status(), 0);
        for (int fact = 0; fact < 8; fact++) {
            c.due("of(0, " + fact + ")", x.of(0, fact), fact < 6 ? MOST[fact] : 0);
        }
        for (int i = 1; i < 120; i++) {
            c.due("child " + i, x.child(0, 0, 0, 0, 0, 0), i);
        }
        c.due("the 121st", x.child(0, 0, 0, 0, 0, 0), -5);
        c.due("status", x.status(), -5);
        c.due("-1 ahead of -5", x.child(0, 0, 0, 0, 0, 24), -1);
        c.due("count(0)", x.count(0), 120);
        c.due("count(9)", x.count(9), 1);
        c.due("count(6)", x.count(6), 13);
    }

    private static void fact(Check c) {
        SweetWaits x = new SweetWaits();
        x.child(1, 2, 3, 4, 5, 6);
        for (int fact = 0; fact < 8; fact++) {
            c.due("fact " + fact + " too high", x.fact(0, fact, MOST[fact] + 1), -1);
            c.due("fact " + fact + " too low", x.fact(0, fact, -1), -1);
            c.due("fact " + fact, x.fact(0, fact, MOST[fact]), fact < 6 ? fact + 1 : 0);
            c.due("fact " + fact + " again", x.fact(0, fact, 0), MOST[fact]);
        }
        c.due("no such fact", x.fact(0, 8, 0), -1);
        c.due("no such fact", x.fact(0, -1, 0), -1);
        c.due("no such child", x.fact(1, 0, 0), -2);
        c.due("no such child", x.fact(-1, 0, 0), -2);
        c.due("no such child", x.fact(Integer.MIN_VALUE, 0, 0), -2);
        c.due("-1 ahead of -2", x.fact(1, 0, 6), -1);
    }

    private static void promise(Check c) {
        SweetWaits x = new SweetWaits();
        x.child(0, 0, 0, 0, 0, 0);
        for (int n = 1; n <= 9; n++) {
            c.due("kept", x.promise(0, 1), n);
        }
        c.due("the tenth", x.promise(0, 1), -3);
        c.due("status", x.status(), -3);
        c.due("count(8)", x.count(8), 1);
        c.due("broken", x.promise(0, 0), 1);
        c.due("kept", x.of(0, 6), 9);
        c.due("broken", x.of(0, 7), 1);
        x.fact(0, 7, 9);
        c.due("the tenth", x.promise(0, 0), -3);
        c.due("neither", x.promise(0, 2), -1);
        c.due("neither", x.promise(0, -1), -1);
        c.due("no such child", x.promise(1, 1), -2);
        c.due("-1 ahead of -2", x.promise(1, 2), -1);
    }

    private static void dealt(Check c) {
        SweetWaits x = new SweetWaits();
        x.child(0, 0, 0, 0, 0, 0);
        c.due("dealt", x.dealt(0, 2), 0);
        c.due("dealt", x.dealt(0, 1), 2);
        c.due("dealt", x.dealt(0, 0), 1);
        c.due("too high", x.dealt(0, 3), -1);
        c.due("too low", x.dealt(0, -1), -1);
        c.due("no such child", x.dealt(1, 0), -2);
        c.due("-1 ahead of -2", x.dealt(1, 3), -1);
    }

    private static void minute(Check c) {
        SweetWaits x = new SweetWaits();
        x.child(0, 0, 0, 0, 0, 0);
        c.due("took", x.minute(0, 0, 0), 3);
        c.due("cut off", x.minute(0, 200, 1), 0);
        c.due("tenths", x.of(0, 9), 200);
        c.due("go", x.minute(0, 0, 2), 1);
        c.due("tenths", x.of(0, 9), 0);
        c.due("not tried", x.minute(0, 0, 3), 2);
        c.due("took", x.minute(0, 200, 0), 3);
        c.due("too many", x.minute(0, 201, 0), -1);
        c.due("too many", x.minute(0, 201, 1), -1);
        c.due("too few", x.minute(0, -1, 0), -1);
        c.due("go with tenths", x.minute(0, 1, 2), -1);
        c.due("not tried with tenths", x.minute(0, 1, 3), -1);
        c.due("no such how", x.minute(0, 0, 4), -1);
        c.due("no such how", x.minute(0, 0, -1), -1);
        c.due("how still", x.of(0, 10), 0);
        c.due("tenths still", x.of(0, 9), 200);
        c.due("no such child", x.minute(1, 0, 0), -2);
        c.due("-1 ahead of -2", x.minute(1, 201, 0), -1);
    }

    private static void later(Check c) {
        SweetWaits x = new SweetWaits();
        x.child(0, 0, 0, 0, 0, 0);
        for (int thing = 0; thing < 4; thing++) {
            c.due("later", x.later(0, thing, 999), -1);
            c.due("it was not refused", x.status(), 0);
            c.due("later", x.later(0, thing, 10 + thing), 999);
        }
        c.due("none", x.later(0, 3, -1), 13);
        c.due("of", x.of(0, 14), -1);
        c.due("of", x.of(0, 11), 10);
        c.due("too low", x.later(0, 0, -2), -1);
        c.due("refused", x.status(), -1);
        c.due("too high", x.later(0, 0, 1000), -1);
        c.due("no such thing", x.later(0, 4, 0), -1);
        c.due("no such thing", x.later(0, -1, 0), -1);
        c.due("count(6)", x.count(6), 4);
        c.due("no such child", x.later(1, 0, 0), -2);
        c.due("-1 ahead of -2", x.later(1, 0, 1000), -1);
        c.due("count(4)", x.count(4), 1);
        x.terms(1, 3);
        c.due("count(4)", x.count(4), 0);
    }

    private static void of(Check c) {
        SweetWaits x = new SweetWaits();
        x.child(1, 2, 3, 4, 5, 6);
        int[] first = {1, 2, 3, 4, 5, 6, 0, 0, 0, 0, 3, -1, -1, -1, -1, 0};
        for (int what = 0; what < 16; what++) {
            c.due("of(0, " + what + ")", x.of(0, what), first[what]);
        }
        c.due("of(0, 16)", x.of(0, 16), -1);
        c.due("of(0, -1)", x.of(0, -1), -1);
        c.due("of(1, 0)", x.of(1, 0), -1);
        c.due("of(-1, 0)", x.of(-1, 0), -1);
        x.minute(0, 100, 1);
        c.due("cut off at LONG", x.of(0, 15), 1);
        x.minute(0, 99, 1);
        c.due("cut off ahead of LONG", x.of(0, 15), 0);
        x.minute(0, 99, 0);
        c.due("took ahead of LONG", x.of(0, 15), 2);
        x.terms(0, 99);
        c.due("took at LONG", x.of(0, 15), 1);
        x.terms(0, 0);
        x.minute(0, 0, 2);
        c.due("had to go", x.of(0, 15), 0);
        x.minute(0, 0, 0);
        c.due("took at once, LONG 0", x.of(0, 15), 1);
        c.due("asking refuses nothing", x.count(6) + x.count(7), 0);
    }

    private static void terms(Check c) {
        SweetWaits x = new SweetWaits();
        c.due("LONG", x.terms(0, 0), 100);
        c.due("LONG", x.terms(0, 200), 0);
        c.due("LONG above", x.terms(0, 201), -1);
        c.due("LONG below", x.terms(0, -1), -1);
        c.due("THING", x.terms(1, 3), 0);
        c.due("THING above", x.terms(1, 4), -1);
        c.due("THING below", x.terms(1, -1), -1);
        c.due("END", x.terms(2, 1), 15);
        c.due("END", x.terms(2, 20), 1);
        c.due("END above", x.terms(2, 21), -1);
        c.due("END below", x.terms(2, 0), -1);
        c.due("no such", x.terms(3, 1), -1);
        c.due("no such", x.terms(-1, 1), -1);
        c.due("LONG is kept", x.terms(0, 7), 200);
        c.due("THING is kept", x.terms(1, 0), 3);
        c.due("END is kept", x.terms(2, 5), 20);
        c.due("count(6)", x.count(6), 8);
    }

    private static void refusedInOrder(Check c) {
        SweetWaits x = new SweetWaits();
        x.child(9, 0, 0, 0, 0, 0);
        c.due("status", x.status(), -1);
        x.fact(0, 0, 0);
        c.due("status", x.status(), -2);
        x.count(0);
        x.of(7, 7);
        x.feed(0, 0, 0, 0, 0);
        x.end(99);
        x.stays(4, 4);
        c.due("others leave it", x.status(), -2);
        x.text();
        c.due("status", x.status(), -6);
        x.child(0, 0, 0, 0, 0, 0);
        c.due("status", x.status(), 0);
        x.row(0);
        c.due("status", x.status(), -6);
        x.meaning(8, 0);
        c.due("status", x.status(), -1);
        x.run(0, 0);
        c.due("status", x.status(), -2);
        x.back(0);
        c.due("status", x.status(), -2);
        x.back(2);
        c.due("status", x.status(), -1);
        x.image(0);
        c.due("status", x.status(), 0);
        int[] want = {3, 3, 0, 0, 2};
        for (int i = 0; i < 5; i++) {
            c.due("count(" + (6 + i) + ")", x.count(6 + i), want[i]);
        }
    }
}
