/** Promises 21 .. 23: chances, and texts weighed by them. */
final class LikelyTest {
    public static void main(String[] args) {
        Check c = new Check("LikelyTest");
        chance(c);
        times(c);
        bounds(c);
        ties(c);
        many(c);
        c.end();
    }

    private static void chance(Check c) {
        SweetWaits x = new SweetWaits();
        x.child(0, 4, 0, 0, 0, 0);
        String[] texts = {"chance 0", "chance 100", "chance 0-1000", "chance 1", "chance 99", "in", "chance 5/0",
            "chance 7;chance 9/minute", "chance 7 if minute<10", "chance 20+wit*minute"};
        int[] at0 = {1, 99, 1, 1, 99, 50, 50, 7, 7, 20};
        int[] at19 = {1, 99, 1, 1, 99, 50, 50, 1, 50, 96};
        for (int i = 0; i < texts.length; i++) {
            c.due("text", Check.text(x, texts[i]), i);
            c.due(texts[i] + " at 0", x.chance(i, 0, 0), at0[i]);
            c.due(texts[i] + " at 19", x.chance(i, 0, 19), at19[i]);
        }
        c.due("no such minute", x.chance(0, 0, 20), -1);
        c.due("no such minute", x.chance(0, 0, -1), -1);
        c.due("no such child", x.chance(0, 1, 0), -1);
        c.due("no such child", x.chance(0, -1, 0), -1);
        c.due("no such text", x.chance(10, 0, 0), -1);
        c.due("no such text", x.chance(-1, 0, 0), -1);
    }

    private static void times(Check c) {
        SweetWaits x = new SweetWaits();
        x.child(0, 0, 0, 0, 0, 0);
        x.child(0, 1, 0, 0, 0, 0);
        Check.text(x, "chance 20");
        Check.text(x, "chance 50");
        Check.text(x, "chance 1");
        Check.text(x, "in if wit=1");
        c.due("nobody was tried", x.times(0, 2, -1), 1);
        x.minute(0, 25, 0);
        // 80*80*20, 50*50*50, 99*99*1
        c.due("times", x.times(0, 1, -1), 1);
        c.due("times", x.times(1, 0, -1), 0);
        c.due("times", x.times(0, 2, -1), 13);
        c.due("times", x.times(2, 0, -1), 0);
        c.due("itself", x.times(2, 2, -1), 1);
        c.due("no clause is 50", x.times(3, 1, -1), 1);
        c.due("likely", x.likely(-1), 0);
        c.due("likely of nobody", x.likely(3), 0);
        x.minute(0, 29, 1);
        // 80*80, 50*50, 99*99
        c.due("cut off", x.times(2, 0, -1), 1);
        c.due("likely", x.likely(-1), 2);
        x.minute(0, 0, 0);
        // 20, 50, 1
        c.due("took at once", x.times(1, 2, -1), 50);
        c.due("likely", x.likely(-1), 1);
        x.minute(1, 9, 1);
        c.due("cut off ahead of a minute", x.times(1, 2, 3), 1);
        c.due("likely for one of whom nothing is known", x.likely(3), 0);
        x.minute(1, 10, 1);
        c.due("likely for a group", x.likely(3), 2);
        c.due("no such text", x.times(4, 0, -1), -1);
        c.due("no such text", x.times(0, 4, -1), -1);
        c.due("no such text", x.times(-1, 0, -1), -1);
        c.due("no such text", x.times(0, -1, -1), -1);
        c.due("no such group", x.times(0, 0, 4), -1);
        c.due("no such group", x.times(0, 0, -2), -1);
        c.due("no such group", x.likely(4), -1);
        c.due("no such group", x.likely(-2), -1);
    }

    private static void bounds(Check c) {
        SweetWaits x = new SweetWaits();
        x.child(0, 0, 0, 0, 0, 0);
        Check.text(x, "chance 10");
        Check.text(x, "chance 91");
        Check.text(x, "chance 99;in");
        int want = 1;
        for (int m = 0; m <= 6; m++) {
            x.minute(0, 10 * m, 1);
            c.due("ten times a minute", x.times(0, 1, -1), want);
            c.due("and back", x.times(1, 0, -1), m == 0 ? 1 : 0);
            want *= 10;
        }
        x.minute(0, 70, 1);
        c.due("a million at most", x.times(0, 1, -1), 1000000);
        x.minute(0, 200, 0);
        c.due("took at 200: only what it waited", x.times(1, 2, -1), 1000000);
        c.due("cut off likewise", x.times(2, 1, -1), 0);
        x.minute(0, 199, 0);
        Check.text(x, "chance 1;chance 2 if minute=19");
        Check.text(x, "chance 1");
        c.due("in the last minute", x.times(3, 4, -1), 2);
        x.minute(0, 200, 0);
        c.due("not in the 20th", x.times(3, 4, -1), 0);
        c.due("but its 100 less", x.times(4, 3, -1), 1);
        // five times 90/9 and once 89/9
        Check.text(x, "chance 10;chance 11 if minute=5");
        x.minute(0, 60, 1);
        c.due("just below a million", x.times(5, 1, -1), 988888);
    }

    private static void ties(Check c) {
        SweetWaits x = new SweetWaits();
        x.child(0, 0, 0, 0, 0, 0);
        Check.text(x, "chance 60");
        Check.text(x, "chance 20;chance 80 if minute=1");
        Check.text(x, "chance 61;chance 59 if minute=1");
        x.minute(0, 20, 1);
        // 40*40 = 80*20, 39*41 is one less
        c.due("alike by other factors", x.times(0, 1, -1), 1);
        c.due("alike by other factors", x.times(1, 0, -1), 1);
        c.due("one less", x.times(2, 0, -1), 0);
        c.due("one more", x.times(0, 2, -1), 1);
        c.due("the lowest", x.likely(-1), 0);
        SweetWaits y = new SweetWaits();
        y.child(0, 0, 0, 0, 0, 0);
        Check.text(y, "chance 61;chance 59 if minute=1");
        Check.text(y, "chance 20;chance 80 if minute=1");
        Check.text(y, "chance 60");
        y.minute(0, 20, 1);
        c.due("the lowest of the most likely", y.likely(-1), 1);
    }

    private static void many(Check c) {
        SweetWaits x = new SweetWaits();
        for (int i = 0; i < 120; i++) {
            x.child(0, 0, 0, 0, 0, 0);
            x.minute(i, 200, 1);
        }
        Check.text(x, "chance 60");
        Check.text(x, "chance 20;chance 80 if minute/2*2=minute");
        Check.text(x, "chance 20;chance 80 if minute/2*2=minute;chance 79 if minute=0");
        // 1200 times 40*40 against 1200 times 20*80; the third one is 21/20 times as likely by each child
        c.due("alike by 2400 factors", x.times(0, 1, -1), 1);
        c.due("alike by 2400 factors", x.times(1, 0, -1), 1);
        c.due("likely", x.likely(-1), 2);
        c.due("a little more", x.times(2, 0, -1), 348);
        c.due("a little less", x.times(0, 2, -1), 0);
        // a child's first two minutes give 39*41 in place of 40*40: 1599/1600, hidden among 2400 other factors
        x.fact(0, 1, 1);
        String near = "chance 20;chance 80 if minute/2*2=minute;chance 61 if wit=1 and minute=0;chance 59 if wit=1 and minute=1";
        c.due("text", Check.text(x, near), 3);
        c.due("next to alike", x.times(3, 0, -1), 0);
        c.due("next to alike", x.times(0, 3, -1), 1);
        c.due("next to alike", x.times(3, 1, -1), 0);
        SweetWaits y = new SweetWaits();
        for (int i = 0; i < 120; i++) {
            y.child(0, i == 0 ? 1 : 0, 0, 0, 0, 0);
            y.minute(i, 200, 1);
        }
        Check.text(y, near);
        Check.text(y, "chance 60");
        c.due("likely", y.likely(-1), 1);
    }
}
