/** Boundaries of the TAPE and of ROWS: Terms I, II, promises 10 .. 12. */
final class EdgesOfTape {
    private static final int LOW = Integer.MIN_VALUE;
    private static final int HIGH = Integer.MAX_VALUE;

    private EdgesOfTape() {
    }

    static void run(Edges e) {
        feed(e);
        end(e);
        waits(e);
        cutShort(e);
        row(e);
    }

    private static void feed(Edges e) {
        e.by("10", "Twenty bytes come behind the TAPE, four of each number, the highest first: how many it has.");
        SweetWaits x = Edges.kids(5);
        e.due("twenty", x.feed(0x01020304, 0, 0, 0, 0), 20);
        x.end(4);
        e.due("0x01020304 can't be", x.row(0), 1);
        x.feed(0x00000005, 0x00000006, 7, 8, 9);
        e.due("five numbers", x.row(0), 0);
        for (int i = 0; i < 5; i++) {
            e.due("in order", x.of(i, 9), 5 + i);
        }
        x.feed(('i' << 24) | ('n' << 16) | (' ' << 8) | 'i', ('f' << 24) | (' ' << 16) | ('1' << 8) | '=', 0x31202020, 0, 0);
        x.end(12);
        e.due("a text", x.text(), 0);
        e.due("all are in", x.group(0, 0), 5);

        e.by("10", "NONE, if there would be more than 400");
        SweetWaits y = Edges.kids(1);
        for (int n = 20; n <= 400; n += 20) {
            e.due("fed", y.feed(n, n, n, n, n), n);
        }
        e.due("420", y.feed(0, 0, 0, 0, 0), -1);
        e.due("it stays", y.count(5), 400);
        y.end(381);
        e.due("401", y.feed(0, 0, 0, 0, 0), -1);
        e.due("it stays", y.count(5), 381);
        y.end(380);
        e.due("400", y.feed(0, 0, 0, 0, 0), 400);
        e.due("that is none of the refused calls", y.count(6), 0);
        e.due("status", y.status(), 0);
        y.end(0);
        e.due("room again", y.feed(0, 0, 0, 0, 0), 20);

        e.by("II", "on a TAPE of at most 400 bytes");
        SweetWaits z = new SweetWaits();
        Check.tape(z, " ".repeat(398) + "in");
        e.due("400 bytes", z.count(5), 400);
        e.due("its last bytes are read", z.text(), 0);
        Check.tape(z, "in" + " ".repeat(397) + "x");
        e.due("its last byte is read", z.text(), -6);
        e.due("there", z.fault(), 399);
        Check.tape(z, "in" + " ".repeat(398));
        e.due("400 bytes", z.text(), 1);
        Check.tape(z, " ".repeat(400));
        e.due("400 blanks", z.text(), -6);
        e.due("at the end", z.fault(), 400);
    }

    private static void end(Edges e) {
        e.by("11", "The TAPE has its first n bytes alone: n.");
        SweetWaits x = Edges.kids(2);
        x.feed(11, 12, 13, 14, 15);
        e.due("all", x.end(20), 20);
        e.due("all but one", x.end(19), 19);
        e.due("one", x.end(4), 4);
        e.due("count", x.count(5), 4);
        x.feed(22, 0, 0, 0, 0);
        e.due("fed behind these", x.count(5), 24);
        e.due("row", x.row(0), 0);
        e.due("the first bytes", x.of(0, 9), 11);
        e.due("new ones behind", x.of(1, 9), 22);
        e.due("nothing", x.end(0), 0);
        e.by("11", "NONE, if it has not so many, or n is below 0");
        e.due("one of none", x.end(1), -1);
        x.feed(0, 0, 0, 0, 0);
        for (int n : new int[] {-1, 21, LOW, HIGH}) {
            e.due("end " + n, x.end(n), -1);
            e.due("it stays", x.count(5), 20);
        }
        e.due("as many as it has", x.end(20), 20);
        x.end(7);
        e.due("what is cut off is gone", x.end(8), -1);
        e.due("status", x.status(), 0);
        e.due("no refused call", x.count(6), 0);
    }

    /** A child's how and tenths by one number of a ROW. */
    private static void wait(Edges e, int told, int how, int tenths) {
        SweetWaits x = Edges.kids(1);
        x.minute(0, 77, 0);
        x.feed(told, 0, 0, 0, 0);
        e.due("row of " + told, x.row(0), how == 2 ? 1 : 0);
        e.due("how by " + told, x.of(0, 10), how);
        e.due("tenths by " + told, x.of(0, 9), tenths);
    }

    private static void waits(Edges e) {
        e.by("I", "four bytes each (the highest first), for one CHILD after the other from a told one on");
        SweetWaits x = Edges.kids(4);
        x.feed(100, -101, 3, 0, 0);
        x.end(12);
        e.due("row", x.row(1), 0);
        e.due("ahead of the told one", x.of(0, 10), 3);
        e.due("the told one", x.of(1, 9) * 10 + x.of(1, 10), 1000);
        e.due("the next", x.of(2, 9) * 10 + x.of(2, 10), 1001);
        e.due("the last", x.of(3, 9) * 10 + x.of(3, 10), 30);
        Check.tape(x, "" + (char) 0 + (char) 0 + (char) 0 + (char) 200);
        e.due("the lowest byte is the last", x.row(3) + x.of(3, 9), 200);
        Check.tape(x, "" + (char) 200 + (char) 0 + (char) 0 + (char) 0);
        e.due("not the first", x.row(3), 1);
        e.by("I", "0 .. 200: it TOOK it then");
        wait(e, 0, 0, 0);
        wait(e, 1, 0, 1);
        wait(e, 127, 0, 127);
        wait(e, 128, 0, 128);
        wait(e, 200, 0, 200);
        e.by("I", "-1 .. -201: it was CUT OFF behind as many TENTHS as that, turned, less 1, are");
        wait(e, -1, 1, 0);
        wait(e, -2, 1, 1);
        wait(e, -129, 1, 128);
        wait(e, -200, 1, 199);
        wait(e, -201, 1, 200);
        e.by("I", "any other number");
        for (int told : new int[] {201, -202, 255, 256, -256, -257, 65536, 1 << 24, 200 << 8, HIGH, LOW, LOW + 1}) {
            wait(e, told, 2, 0);
        }
    }

    private static void cutShort(Edges e) {
        e.by("I", "or one within which the TAPE ends: it had to GO");
        for (int n = 0; n <= 8; n++) {
            // Each byte is 0, or each is 255, so that what is there of a number would be a wait.
            cutShort(e, n, 0);
            cutShort(e, n, -1);
        }
        e.by("I", "What is behind the last CHILD is passed by.");
        SweetWaits x = Edges.kids(3);
        x.feed(1, 2, 999, 999, 999);
        x.end(11);
        e.due("two numbers for two, and three bytes", x.row(1), 0);
        e.due("the first one of these", x.of(1, 9), 1);
        e.due("the last one", x.of(2, 9), 2);
        e.due("not the first one", x.of(0, 10), 3);
        e.due("the tape is empty", x.count(5), 0);
        x.feed(999, 1, 2, 3, 4);
        e.due("five for three", x.row(0), 1);
        e.due("it stays three", x.count(0), 3);
        e.due("a child that comes then", x.child(0, 0, 0, 0, 0, 0), 3);
        e.due("has none of it", x.of(3, 10), 3);
    }

    private static void cutShort(Edges e, int n, int number) {
        SweetWaits x = Edges.kids(3);
        x.feed(number, number, number, number, number);
        x.end(n);
        int whole = n / 4;
        int rest = n % 4 == 0 ? 0 : 1;
        e.due("a row of " + n + " bytes of " + number, x.row(0), n == 0 ? -6 : rest);
        for (int child = 0; child < 3; child++) {
            int how = child < whole ? -number : child < whole + rest ? 2 : 3;
            e.due("child " + child + " by " + n + " bytes of " + number, x.of(child, 10), how);
        }
    }

    private static void row(Edges e) {
        e.by("12", "A ROW of waits from a CHILD on, the TAPE is empty then (not if -2): how many of these had to GO.");
        SweetWaits x = Edges.kids(4);
        x.minute(0, 0, 2);
        x.feed(999, 5, 999, 0, 0);
        e.due("not there", x.row(4), -2);
        e.due("the tape stays", x.count(5), 20);
        x.end(12);
        e.due("of these, not of all", x.row(1), 2);
        e.due("the tape is empty", x.count(5), 0);
        e.due("of all", x.count(3), 3);
        e.due("status", x.status(), 0);
        e.by("12", "-2");
        for (int child : new int[] {-1, 4, 120, LOW, HIGH}) {
            e.due("no child " + child, x.row(child), -2);
        }
        x.feed(1, 2, 3, 4, 5);
        for (int child : new int[] {-1, 4, 120, LOW, HIGH}) {
            e.due("no child " + child, x.row(child), -2);
        }
        e.due("the tape stays", x.count(5), 20);
        e.due("the last child", x.row(3), 0);
        e.due("it took it at 1", x.of(3, 9), 1);
        e.by("12", "-6 the TAPE is empty");
        e.due("empty", x.row(3), -6);
        e.due("status", x.status(), -6);
        e.due("it stays", x.of(3, 9), 1);
        x.feed(0, 0, 0, 0, 0);
        x.end(1);
        e.due("one byte", x.row(3), 1);
        e.due("had to go", x.of(3, 10), 2);
    }
}
