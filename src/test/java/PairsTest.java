/** Promises 30 .. 36: meanings, pairs, what is put beside, ways looked at and what that costs. */
final class PairsTest {
    public static void main(String[] args) {
        Check c = new Check("PairsTest");
        meaning(c);
        pairs(c);
        alike(c);
        nearest(c);
        ways(c);
        paid(c);
        c.end();
    }

    /** A child with a wait and a thing, of house, wit and way. */
    private static void put(SweetWaits x, int house, int wit, int way, int tenths, int thing) {
        int child = x.child(house, wit, 0, 0, 0, way);
        x.minute(child, tenths, 0);
        x.later(child, 0, thing);
    }

    private static void meaning(Check c) {
        SweetWaits x = new SweetWaits();
        for (int fact = 0; fact < 8; fact++) {
            c.due("meaning", x.meaning(fact, 2), 0);
            c.due("meaning", x.meaning(fact, 1), 2);
            c.due("meaning", x.meaning(fact, 0), 1);
        }
        c.due("no such fact", x.meaning(8, 0), -1);
        c.due("no such fact", x.meaning(-1, 0), -1);
        c.due("no such meaning", x.meaning(0, 3), -1);
        c.due("no such meaning", x.meaning(0, -1), -1);
        c.due("count(6)", x.count(6), 4);
        c.due("all are causes", x.beside(-1, 0), 63);
        c.due("nothing hides", x.hides(255), 0);
        x.meaning(0, 1);
        x.meaning(3, 2);
        x.meaning(6, 1);
        x.meaning(7, 2);
        c.due("causes", x.beside(-1, 0), 63 - 1 - 8);
        c.due("all hide", x.hides(255), 1 + 8 + 64 + 128);
        c.due("some hide", x.hides(1 + 2 + 128), 1 + 128);
        c.due("none hides", x.hides(2 + 4 + 16 + 32), 0);
        c.due("nothing", x.hides(0), 0);
        c.due("no such facts", x.hides(256), -1);
        c.due("no such facts", x.hides(-1), -1);
    }

    private static void pairs(Check c) {
        SweetWaits x = new SweetWaits();
        put(x, 0, 0, 0, 150, 5);
        put(x, 0, 0, 0, 100, 7);
        put(x, 0, 0, 0, 99, 5);
        put(x, 1, 0, 0, 0, 6);
        put(x, 0, 0, 0, 20, -1);
        put(x, 0, 0, 0, 200, -1);
        x.minute(x.child(0, 0, 0, 0, 0, 0), 40, 1);
        x.later(6, 0, 500);
        x.later(x.child(0, 0, 0, 0, 0, 0), 0, 500);
        Check.text(x, "in if house=0");
        // long: 5, 7; short: 5, 6
        c.due("won", x.pairs(-1, 0, 0), 2);
        c.due("lost", x.pairs(-1, 0, 1), 1);
        c.due("even", x.pairs(-1, 0, 2), 1);
        c.due("won alike in house", x.pairs(-1, 1, 0), 1);
        c.due("lost alike in house", x.pairs(-1, 1, 1), 0);
        c.due("even alike in all", x.pairs(-1, 255, 2), 1);
        c.due("won in a group", x.pairs(0, 0, 0), 1);
        c.due("lost in a group", x.pairs(0, 0, 1), 0);
        x.minute(6, 100, 1);
        c.due("one cut off is long", x.pairs(-1, 0, 0), 4);
        c.due("no such facts", x.pairs(-1, 256, 0), -1);
        c.due("no such facts", x.pairs(-1, -1, 0), -1);
        c.due("no such what", x.pairs(-1, 0, 3), -1);
        c.due("no such what", x.pairs(-1, 0, -1), -1);
        c.due("no such group", x.pairs(1, 0, 0), -1);
        c.due("beside nothing", x.beside(-1, 2), 3);
        c.due("beside causes", x.beside(-1, 1), 2);
        x.meaning(0, 1);
        c.due("house is no cause", x.beside(-1, 1), 3);
        c.due("no such what", x.beside(-1, 4), -1000000);
        c.due("no such what", x.beside(-1, -1), -1000000);
        for (int what = 0; what < 4; what++) {
            c.due("no such group", x.beside(1, what), -1000000);
            c.due("no such group", x.beside(-2, what), -1000000);
        }
        x.terms(1, 1);
        c.due("of another thing", x.pairs(-1, 0, 0), 0);
    }

    /** Each FACT by itself keeps two children from being alike. */
    private static void alike(Check c) {
        for (int fact = 0; fact < 8; fact++) {
            SweetWaits x = new SweetWaits();
            put(x, 0, 0, 0, 150, 5);
            put(x, 0, 0, 0, 50, 4);
            c.due("alike in all", x.pairs(-1, 255, 0), 1);
            x.fact(0, fact, 3);
            c.due("alike in others", x.pairs(-1, 255 - (1 << fact), 0), 1);
            c.due("not in " + fact, x.pairs(-1, 1 << fact, 0), 0);
            c.due("not in all", x.pairs(-1, 255, 0), 0);
            c.due("beside causes", x.beside(-1, 1), fact < 6 ? 0 : 1);
            x.meaning(fact, 2);
            c.due("beside other causes", x.beside(-1, 1), 1);
            c.due("like in all", x.like(0, 255, 0), 0);
            c.due("like in others", x.like(0, 255 - (1 << fact), 0), 1);
        }
    }

    private static void nearest(Check c) {
        SweetWaits x = new SweetWaits();
        c.due("without any", x.beside(-1, 3), -1);
        put(x, 0, 1, 0, 150, 5);
        put(x, 0, 1, 0, 50, 5);
        c.due("an even pair alone", x.beside(-1, 3), -1);
        put(x, 0, 2, 0, 60, 4);
        put(x, 0, 3, 1, 160, 3);
        // won: 0 over 2; lost: 3 against 1 and 2; even: 0 and 1
        c.due("nothing beside", x.beside(-1, 2), -1);
        c.due("one off by nothing as by way: the lowest", x.beside(-1, 3), 0);
        x.later(0, 0, 6);
        // won: 0 over 1, 2
        c.due("even out with nothing", x.beside(-1, 3), 0);
        x.later(3, 0, 9);
        // all four won; alike in way: two; in wit: one of these
        c.due("by wit", x.beside(-1, 3), 2);
        x.fact(1, 0, 1);
        x.fact(2, 0, 1);
        x.fact(3, 0, 1);
        // alike in house: 3 over 1 and 2; in wit: 0 over 1
        c.due("by wit", x.beside(-1, 3), 2);
        x.fact(0, 1, 9);
        // alike in wit: none; in way: 0 over 1, 2; in both: none
        c.due("the lowest of alike ones", x.beside(-1, 3), 1);
    }

    private static void ways(Check c) {
        SweetWaits x = new SweetWaits();
        put(x, 0, 0, 3, 150, 9);
        put(x, 0, 0, 3, 50, 5);
        put(x, 0, 0, 5, 150, 1);
        put(x, 0, 0, 5, 50, 5);
        put(x, 1, 0, 9, 150, 9);
        put(x, 0, 1, 9, 50, 5);
        c.due("won", x.looked(3), 1);
        c.due("lost", x.looked(5), -1);
        c.due("won, alike in nothing", x.looked(9), 1);
        c.due("none", x.looked(0), 0);
        c.due("none", x.looked(23), 0);
        c.due("no such way", x.looked(24), -1000000);
        c.due("no such way", x.looked(-1), -1000000);
        c.due("the lowest of the best", x.best(), 3);
        put(x, 0, 0, 9, 20, 8);
        c.due("the best", x.best(), 9);
        c.due("won twice", x.looked(9), 2);
        put(x, 0, 0, 9, 20, 9);
        c.due("even counts nothing", x.looked(9), 2);
        SweetWaits y = new SweetWaits();
        put(y, 0, 0, 0, 150, 1);
        put(y, 0, 0, 0, 50, 5);
        c.due("lost", y.looked(0), -1);
        c.due("a way of nobody is better", y.best(), 1);
    }

    private static void paid(Check c) {
        SweetWaits x = new SweetWaits();
        put(x, 0, 0, 7, 150, 9);
        put(x, 0, 0, 7, 50, 5);
        // draws from 0: 12345, 628841, 621889, 953857 are odd: the second one stays; 113460, 158350 exchange
        int[] want = {1, 2, 3, 4, 4, 5};
        for (int n = 1; n <= 6; n++) {
            c.due("paid(" + n + ", 0)", x.paid(n, 0), want[n - 1]);
        }
        c.due("the things are as they were", x.of(0, 11), 9);
        c.due("the best is as it was", x.best(), 7);
        c.due("too few", x.paid(0, 0), -1);
        c.due("too many", x.paid(101, 0), -1);
        c.due("below", x.paid(5, -1), -1);
        c.due("above", x.paid(5, 1000001), -1);
        c.so("at most as often", x.paid(100, 1000000) <= 100 && x.paid(100, 1000000) > 0);
        x.later(0, 0, 1);
        c.due("nothing to pay for", x.paid(100, 3), 100);
        x.later(0, 0, 9);
        x.child(0, 0, 0, 0, 0, 0);
        x.later(2, 0, 3);
        // three found: number 2 with 12345 % 3 = 0: 3, 5, 9; number 1 with 628841 % 2 = 1: it stays: lost
        c.due("one who was not tried is shuffled, too", x.paid(1, 0), 0);
        // then number 2 with 621889 % 3 = 1: 3, 9, 5; number 1 with 953857 % 2 = 1: lost
        c.due("and the next one", x.paid(2, 0), 0);
        // then number 2 with 113460 % 3 = 0: 5, 9, 3; number 1 with 158350 % 2 = 0: 9, 5, 3: won
        c.due("and the next one", x.paid(3, 0), 1);
    }
}
