/** Promises 10 .. 12: the tape, and rows of waits on it. */
final class TapeTest {
    public static void main(String[] args) {
        Check c = new Check("TapeTest");
        tape(c);
        row(c);
        c.end();
    }

    private static void tape(Check c) {
        SweetWaits x = new SweetWaits();
        for (int n = 20; n <= 400; n += 20) {
            c.due("feed", x.feed(1, 2, 3, 4, 5), n);
        }
        c.due("beyond 400", x.feed(1, 2, 3, 4, 5), -1);
        c.due("count(5)", x.count(5), 400);
        c.due("end above", x.end(401), -1);
        c.due("end below", x.end(-1), -1);
        c.due("end", x.end(381), 381);
        c.due("would be 401", x.feed(1, 2, 3, 4, 5), -1);
        c.due("end", x.end(380), 380);
        c.due("feed", x.feed(1, 2, 3, 4, 5), 400);
        c.due("end", x.end(0), 0);
        c.due("end", x.end(1), -1);
        c.due("refused is none of these", x.count(6), 0);
        c.due("status", x.status(), 0);
    }

    private static void row(Check c) {
        SweetWaits x = new SweetWaits();
        for (int i = 0; i < 7; i++) {
            x.child(0, 0, 0, 0, 0, 0);
        }
        c.due("empty", x.row(0), -6);
        c.due("-2 ahead of -6", x.row(7), -2);
        c.due("-2 ahead of -6", x.row(-1), -2);
        x.feed(0, 200, -1, -201, 201);
        x.feed(-202, 5, 6, 7, 8);
        c.due("-2 leaves the tape", x.row(7), -2);
        c.due("count(5)", x.count(5), 40);
        x.end(27);
        c.due("row", x.row(0), 3);
        c.due("it is empty then", x.count(5), 0);
        int[] how = {0, 0, 1, 1, 2, 2, 2};
        int[] tenths = {0, 200, 0, 200, 0, 0, 0};
        for (int i = 0; i < 7; i++) {
            c.due("how of " + i, x.of(i, 10), how[i]);
            c.due("tenths of " + i, x.of(i, 9), tenths[i]);
        }
        c.due("count(2)", x.count(2), 4);
        c.due("count(3)", x.count(3), 3);
        x.feed(10, -21, 30, Integer.MIN_VALUE, Integer.MAX_VALUE);
        c.due("from the last but one on", x.row(5), 0);
        c.due("took 10", x.of(5, 9), 10);
        c.due("cut off at 20", x.of(6, 9), 20);
        c.due("cut off", x.of(6, 10), 1);
        c.due("others stay", x.of(1, 9), 200);
        x.feed(0x00000100, 0, 0, 0, 0);
        x.end(3);
        c.due("a row of three bytes", x.row(0), 1);
        c.due("had to go", x.of(0, 10), 2);
        c.due("the next one is not reached", x.of(1, 10), 0);
        x.feed(256, 0, 0, 0, 0);
        x.end(4);
        c.due("256 can't be", x.row(1), 1);
        x.feed(5, 0, 0, 0, 0);
        x.end(4);
        c.due("one whole number", x.row(0), 0);
        c.due("took 5", x.of(0, 9), 5);
        x.feed(-1, 0, 0, 0, 0);
        x.end(3);
        c.due("a number that is not whole", x.row(0), 1);
        c.due("had to go", x.of(0, 10), 2);
        x.feed(7, 999, 999, 999, 999);
        c.due("behind the last nobody goes", x.row(6), 0);
    }
}
