/** Promises 39 .. 41: worlds drawn. */
final class WorldTest {
    public static void main(String[] args) {
        Check c = new Check("WorldTest");
        drawn(c);
        kept(c);
        laws(c);
        refused(c);
        c.end();
    }

    // Draws of 100 from seed 0: 45 41 89 57 60 50 73 41.
    private static SweetWaits four() {
        SweetWaits x = new SweetWaits();
        for (int wit = 0; wit < 4; wit++) {
            x.child(wit / 2, wit, 0, 0, 0, 0);
        }
        x.terms(2, 3);
        Check.text(x, "chance 50;later 40-10*wit+waited");
        return x;
    }

    private static void drawn(Check c) {
        SweetWaits x = four();
        c.due("one waits to the end", x.run(0, 0), 1);
        int[][] want = {{0, 1, 40}, {0, 1, 30}, {3, 0, 50}, {2, 1, 30}};
        int[] sum = new int[3];
        for (int child = 0; child < 4; child++) {
            for (int what = 0; what < 3; what++) {
                c.due("world(" + child + ", " + what + ")", x.world(child, what), want[child][what]);
                sum[what] += want[child][what];
            }
        }
        for (int what = 0; what < 3; what++) {
            c.due("world(-1, " + what + ")", x.world(-1, what), sum[what]);
        }
        c.due("no such child", x.world(4, 0), -1);
        c.due("no such child", x.world(-2, 0), -1);
        c.due("no such what", x.world(0, 3), -1);
        c.due("no such what", x.world(-1, -1), -1);
        c.due("won thrice", x.drawn(0), 3);
        c.due("alike in house", x.drawn(1), 1);
        c.due("alike in wit", x.drawn(2), 0);
        c.due("no such facts", x.drawn(256), -1000000);
        c.due("no such facts", x.drawn(-1), -1000000);
        c.due("waited is a child's own in chance", x.of(2, 9), 0);
    }

    private static void kept(Check c) {
        SweetWaits x = four();
        x.image(0);
        x.child(0, 0, 0, 0, 0, 0);
        x.run(0, 0);
        x.back(0);
        c.due("back leaves the world", x.world(4, 0) >= 0 ? 1 : 0, 1);
        x.run(0, 0);
        x.fact(2, 0, 5);
        x.fact(0, 0, 5);
        x.terms(2, 20);
        x.terms(1, 3);
        x.child(0, 0, 0, 0, 0, 0);
        c.due("facts as they were", x.drawn(1), 1);
        c.due("end as it was", x.drawn(0), 3);
        c.due("a later child is not in it", x.world(4, 0), -1);
        c.due("a run that is refused leaves it", x.run(1, 0), -2);
        c.due("still", x.world(2, 0), 3);
    }

    private static void laws(Check c) {
        SweetWaits x = new SweetWaits();
        c.due("no child", x.world(-1, 0), -1);
        Check.text(x, "chance 1;later 1000");
        Check.text(x, "chance 46-minute*45;later 0-1");
        Check.text(x, "chance waited;later minute+5 if waited>0");
        Check.text(x, "in");
        c.due("of nobody", x.run(0, 7), 0);
        c.due("sum of nobody", x.world(-1, 0), 0);
        c.due("pairs of nobody", x.drawn(0), 0);
        x.child(0, 0, 0, 0, 0, 0);
        c.due("waits to the end of 15", x.run(0, 0), 1);
        c.due("minutes", x.world(0, 0), 15);
        c.due("the nearest", x.world(0, 2), 999);
        x.terms(2, 20);
        c.due("waits to the end of 20", x.run(0, 0), 1);
        c.due("minutes", x.world(0, 0), 20);
        c.due("takes it at once", x.run(1, 0), 0);
        c.due("the nearest", x.world(0, 2), 0);
        x.minute(0, 99, 1);
        c.due("waited is 99 in chance", x.run(2, 0), 0);
        c.due("minutes", x.world(0, 0), 0);
        c.due("waited is 0 in later", x.world(0, 2), 0);
        x.minute(0, 0, 3);
        c.due("waited is 0 in chance", x.run(2, 0), 1);
        c.due("waited is 200 in later, minute 0", x.world(0, 2), 5);
        c.due("chance is 50 without", x.run(3, 0), 0);
        c.due("later is 0 without", x.world(0, 2), 0);
        // 46 of 100: from 2 on draws are (2206 + 12345) % 1000003 = 14551: 51
        c.due("not below", x.run(1, 2), 1);
        c.due("it stays as it was", x.of(0, 10), 3);
    }

    private static void refused(Check c) {
        SweetWaits x = four();
        c.due("without a world", x.world(0, 0), -1);
        c.due("without a world", x.drawn(0), -1000000);
        c.due("above", x.run(0, 1000001), -1);
        c.due("below", x.run(0, -1), -1);
        c.due("-1 ahead of -2", x.run(1, -1), -1);
        c.due("no such text", x.run(1, 0), -2);
        c.due("no such text", x.run(-1, 0), -2);
        c.due("status", x.status(), -2);
        c.due("count(6)", x.count(6), 3);
        c.due("count(7)", x.count(7), 2);
        c.due("none was drawn", x.world(0, 0), -1);
        c.so("the highest seed", x.run(0, 1000000) >= 0);
        c.due("status", x.status(), 0);
    }
}
