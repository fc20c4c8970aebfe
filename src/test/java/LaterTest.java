/** Promises 28, 29: bounds by those found later. */
final class LaterTest {
    public static void main(String[] args) {
        Check c = new Check("LaterTest");
        SweetWaits x = new SweetWaits();
        for (int i = 0; i < 6; i++) {
            x.child(i / 3, 0, 0, 0, 0, 0);
        }
        x.later(0, 2, 10);
        x.later(1, 2, 15);
        x.later(3, 2, 999);
        Check.text(x, "in if house=0");
        Check.text(x, "in if house=1");
        Check.text(x, "in if house=2");
        c.due("nobody found", x.bounds(0, 0), -1);
        c.due("least", x.bounds(0, 1), 0);
        c.due("greatest", x.bounds(0, 2), 99900);
        x.terms(1, 2);
        c.due("mean", x.bounds(0, 0), 1250);
        c.due("least, cut", x.bounds(0, 1), 833);
        c.due("greatest, cut", x.bounds(0, 2), 34133);
        c.due("mean", x.bounds(1, 0), 99900);
        c.due("least", x.bounds(1, 1), 33300);
        c.due("greatest", x.bounds(1, 2), 99900);
        c.due("mean of all", x.bounds(-1, 0), 34133);
        c.due("mean of nobody", x.bounds(2, 0), -1);
        c.due("least of nobody", x.bounds(2, 1), -1);
        c.due("greatest of nobody", x.bounds(2, 2), -1);
        c.due("no such what", x.bounds(0, 3), -1);
        c.due("no such what", x.bounds(0, -1), -1);
        c.due("no such text", x.bounds(3, 0), -1);
        c.due("no such text", x.bounds(-2, 0), -1);

        c.due("apart least", x.apart(0, 1, 0), 833 - 99900);
        c.due("apart greatest", x.apart(0, 1, 1), 34133 - 33300);
        c.due("turned least", x.apart(1, 0, 0), 33300 - 34133);
        c.due("turned greatest", x.apart(1, 0, 1), 99900 - 833);
        c.due("of nobody", x.apart(0, 2, 0), -1000000);
        c.due("of nobody", x.apart(2, 0, 1), -1000000);
        c.due("no such what", x.apart(0, 1, 2), -1000000);
        c.due("no such what", x.apart(0, 1, -1), -1000000);
        c.due("no such text", x.apart(0, 3, 0), -1000000);
        c.due("no such text", x.apart(-2, 0, 0), -1000000);
        x.terms(1, 3);
        c.due("nobody found", x.apart(0, 1, 0), -99900);
        c.due("nobody found", x.apart(0, 1, 1), 99900);
        x.later(0, 3, 0);
        c.due("0 is found", x.bounds(0, 0), 0);
        c.end();
    }
}
