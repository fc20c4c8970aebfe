/** Promises 37, 38: who lasts longer. */
final class LastsTest {
    public static void main(String[] args) {
        Check c = new Check("LastsTest");
        two(c);
        groups(c);
        trust(c);
        c.end();
    }

    /** Of two children, by how and how long they waited: which of 0 .. 3 is 1. */
    private static void pair(Check c, int tenths, int how, int otherTenths, int otherHow, int want) {
        SweetWaits x = new SweetWaits();
        x.child(0, 0, 0, 0, 0, 0);
        x.child(1, 0, 0, 0, 0, 0);
        x.minute(0, tenths, how);
        x.minute(1, otherTenths, otherHow);
        Check.text(x, "in if house=0");
        Check.text(x, "in if house=1");
        for (int what = 0; what < 4; what++) {
            String call = "lasts of " + tenths + "/" + how + ", " + otherTenths + "/" + otherHow + ": " + what;
            c.due(call, x.lasts(0, 1, what), what == want ? 1 : 0);
        }
    }

    private static void two(Check c) {
        pair(c, 50, 0, 49, 0, 0);
        pair(c, 49, 0, 50, 0, 1);
        pair(c, 50, 0, 50, 0, 2);
        pair(c, 50, 1, 49, 0, 0);
        pair(c, 50, 1, 50, 0, 0);
        pair(c, 50, 1, 51, 0, 3);
        pair(c, 49, 0, 50, 1, 1);
        pair(c, 50, 0, 50, 1, 1);
        pair(c, 51, 0, 50, 1, 3);
        pair(c, 50, 1, 50, 1, 3);
        pair(c, 50, 1, 150, 1, 3);
        pair(c, 0, 2, 50, 0, -1);
        pair(c, 50, 0, 0, 2, -1);
        pair(c, 0, 3, 50, 0, -1);
        pair(c, 50, 1, 0, 3, -1);
    }

    private static void groups(Check c) {
        SweetWaits x = new SweetWaits();
        for (int i = 0; i < 4; i++) {
            x.child(0, i, 0, 0, 0, 0);
            x.minute(i, 10 * (i / 2), 0);
        }
        Check.text(x, "in if wit<2");
        Check.text(x, "in if wit>0");
        c.due("itself is no pair", x.lasts(0, 0, 2), 2);
        c.due("all longer", x.lasts(-1, -1, 0), 4);
        c.due("all shorter", x.lasts(-1, -1, 1), 4);
        c.due("all even", x.lasts(-1, -1, 2), 4);
        c.due("that have one in common", x.lasts(0, 1, 1), 4);
        c.due("that have one in common", x.lasts(0, 1, 2), 1);
        c.due("that have one in common", x.lasts(0, 1, 0), 0);
        c.due("no such what", x.lasts(-1, -1, 4), -1);
        c.due("no such what", x.lasts(-1, -1, -1), -1);
        c.due("no such group", x.lasts(2, -1, 0), -1);
        c.due("no such group", x.lasts(-1, 2, 0), -1);
        c.due("no such group", x.lasts(-1, -2, 0), -1);
    }

    private static void trust(Check c) {
        SweetWaits x = new SweetWaits();
        int[] dealt = {1, 2, 1, 2, 0};
        int[][] waits = {{50, 0}, {50, 0}, {60, 1}, {70, 1}, {10, 0}};
        for (int i = 0; i < 5; i++) {
            x.child(0, 0, 0, 0, 0, 0);
            x.dealt(i, dealt[i]);
            x.minute(i, waits[i][0], waits[i][1]);
        }
        int[] want = {1, 1, 1, 1};
        for (int what = 0; what < 4; what++) {
            c.due("trust(" + what + ")", x.trust(what), want[what]);
        }
        x.dealt(4, 2);
        c.due("trust(0)", x.trust(0), 3);
        c.due("no such what", x.trust(4), -1);
        c.due("no such what", x.trust(-1), -1);
    }
}
