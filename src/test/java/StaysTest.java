/** Promises 17 .. 20: how a group stays. */
final class StaysTest {
    public static void main(String[] args) {
        Check c = new Check("StaysTest");
        few(c);
        exact(c);
        edges(c);
        c.end();
    }

    private static void few(Check c) {
        SweetWaits x = new SweetWaits();
        int[][] waits = {{10, 0}, {10, 0}, {10, 0}, {10, 1}, {10, 1}, {20, 0}};
        for (int i = 0; i < waits.length; i++) {
            x.child(0, i, 0, 0, 0, 0);
            x.minute(i, waits[i][0], waits[i][1]);
        }
        x.child(0, 9, 0, 0, 0, 0);
        x.child(0, 9, 0, 0, 0, 0);
        x.minute(7, 0, 2);
        Check.text(x, "in if wit<4");
        c.due("ahead", x.stays(-1, 9), 1000000);
        c.due("those cut off at once are still there", x.stays(-1, 10), 500000);
        c.due("nobody took it", x.stays(-1, 19), 500000);
        c.due("the last one took it", x.stays(-1, 20), 0);
        c.due("and for ever", x.stays(-1, 200), 0);
        c.due("a group", x.stays(0, 10), 250000);
        c.due("half", x.half(-1), 10);
        c.due("half of a group", x.half(0), 10);
        c.due("right", x.right(-1, 0, 10), 500000);
        c.due("right at once", x.right(-1, 10, 10), 1000000);
        c.due("right to 0", x.right(-1, 10, 20), 0);
        c.due("right of 0", x.right(-1, 20, 20), -1);
        c.due("right of 0", x.right(-1, 20, 200), -1);
        c.due("right of 0", x.right(-1, 199, 200), -1);
        c.due("right of a group", x.right(0, 10, 200), 1000000);
        c.due("gone on", x.goneOn(-1), 40);
        c.due("gone on of a group", x.goneOn(0), 200);
    }

    private static void exact(Check c) {
        SweetWaits x = new SweetWaits();
        for (int i = 0; i < 120; i++) {
            x.child(0, 0, 0, 0, 0, 0);
            x.minute(i, i, 0);
        }
        for (int t = 0; t < 120; t += 7) {
            c.due("stays at " + t, x.stays(-1, t), (119 - t) * 1000000 / 120);
        }
        c.due("just a half", x.half(-1), 59);
        x.minute(119, 120, 1);
        c.due("right", x.right(-1, 59, 89), 500000);
        c.due("all behind the last half", x.goneOn(-1), 200);
        for (int i = 0; i < 60; i++) {
            x.minute(2 * i, 2 * i, 1);
        }
        // (118*116*..*2 / 119*117*..*1) is beyond what doubles keep.
        java.math.BigInteger up = java.math.BigInteger.valueOf(1000000);
        java.math.BigInteger down = java.math.BigInteger.ONE;
        for (int t = 1; t < 119; t += 2) {
            up = up.multiply(java.math.BigInteger.valueOf(119 - t));
            down = down.multiply(java.math.BigInteger.valueOf(120 - t));
            c.due("stays at " + t, x.stays(-1, t), up.divide(down).intValueExact());
        }
    }

    private static void edges(Check c) {
        SweetWaits x = new SweetWaits();
        x.child(0, 0, 0, 0, 0, 0);
        x.child(0, 0, 0, 0, 0, 0);
        x.child(0, 0, 0, 0, 0, 0);
        x.minute(0, 0, 0);
        x.minute(1, 200, 0);
        x.minute(2, 200, 1);
        c.due("at 0", x.stays(-1, 0), 666666);
        c.due("at 200", x.stays(-1, 200), 333333);
        c.due("half at 200", x.half(-1), 200);
        c.due("right from 0", x.right(-1, 0, 200), 500000);
        c.due("right from 0 to 0", x.right(-1, 0, 0), 1000000);
        c.due("gone on from 200", x.goneOn(-1), 200);
        x.minute(1, 0, 2);
        c.due("never so little", x.half(-1), 0);
        x.minute(0, 0, 3);
        c.due("never so little", x.half(-1), -1);
        x.minute(2, 5, 1);
        c.due("none such", x.goneOn(-1), 200);
        x.minute(2, 0, 1);
        x.minute(0, 1, 0);
        c.due("from 0 on", x.goneOn(-1), 1);
        c.due("cut off at 0 is not there at 1", x.stays(-1, 1), 0);
        x.minute(2, 0, 0);
        x.minute(0, 0, 0);
        c.due("all took it at once", x.right(-1, 0, 5), -1);
        x.minute(2, 200, 0);
        x.minute(0, 200, 0);
        c.due("all took it at the end", x.right(-1, 200, 200), -1);
        c.due("just ahead of it", x.right(-1, 199, 200), 0);
        c.due("above", x.stays(-1, 201), -1);
        c.due("below", x.stays(-1, -1), -1);
        c.due("no text", x.stays(0, 0), -1);
        c.due("no text", x.half(0), -1);
        c.due("no text", x.half(-2), -1);
        c.due("no text", x.goneOn(0), -1);
        c.due("no text", x.right(0, 0, 1), -1);
        c.due("below from", x.right(-1, 5, 4), -1);
        c.due("above", x.right(-1, 5, 201), -1);
        c.due("below", x.right(-1, -1, 4), -1);
        c.due("all above", x.right(-1, 201, 201), -1);
    }
}
