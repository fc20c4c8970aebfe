/** Boundaries of PAIRS, MEANINGS and WAYS LOOKED AT: Terms IV, promises 30 .. 36. */
final class EdgesOfLooks {
    private static final int LOW = Integer.MIN_VALUE;
    private static final int HIGH = Integer.MAX_VALUE;
    private static final int[] MOST = {5, 9, 9, 9, 7, 23, 9, 9};

    private EdgesOfLooks() {
    }

    static void run(Edges e) {
        meaning(e);
        pairs(e);
        alike(e);
        beside(e);
        nearest(e);
        hides(e);
        looked(e);
        best(e);
        draws(e);
        shuffles(e);
        paid(e);
    }

    /** One more child of a way, who took it then and has so much of the thing. */
    private static int put(SweetWaits x, int way, int tenths, int thing) {
        int child = x.child(0, 0, 0, 0, 0, way);
        x.minute(child, tenths, 0);
        x.later(child, 0, thing);
        return child;
    }

    private static void meaning(Edges e) {
        e.by("IV", "MEANING of a FACT: 0 CAUSE (at first), 1 MARK, 2 COMES of waiting");
        SweetWaits x = new SweetWaits();
        for (int fact = 0; fact < 8; fact++) {
            e.due("at first", x.meaning(fact, 0), 0);
            e.due("below", x.meaning(fact, -1), -1);
            e.due("the most", x.meaning(fact, 2), 0);
            e.due("above", x.meaning(fact, 3), -1);
            e.due("it stays", x.meaning(fact, 1), 2);
        }
        e.by("30", "MEANING of a FACT: what it was.");
        for (int fact = 0; fact < 8; fact++) {
            e.due("each its own", x.meaning(fact, fact % 3), 1);
        }
        for (int fact = 0; fact < 8; fact++) {
            e.due("each its own", x.meaning(fact, 0), fact % 3);
        }
        e.by("30", "-1");
        for (int fact : new int[] {-1, 8, LOW, HIGH}) {
            e.due("no fact " + fact, x.meaning(fact, 0), -1);
            e.due("status", x.status(), -1);
        }
        for (int meaning : new int[] {-1, 3, LOW, HIGH}) {
            e.due("no meaning " + meaning, x.meaning(0, meaning), -1);
        }
        e.due("the last one", x.meaning(7, 2), 0);
        e.due("status", x.status(), 0);
    }

    private static void pairs(Edges e) {
        e.by("IV", "WON, if the LONG one has more of the THING, LOST, if it has less, EVEN else");
        for (int more = -1; more <= 1; more++) {
            SweetWaits x = new SweetWaits();
            put(x, 0, 100, 500 + more);
            put(x, 0, 99, 500);
            e.due("won by " + more, x.pairs(-1, 255, 0), more > 0 ? 1 : 0);
            e.due("lost by " + more, x.pairs(-1, 255, 1), more < 0 ? 1 : 0);
            e.due("even by " + more, x.pairs(-1, 255, 2), more == 0 ? 1 : 0);
        }
        e.by("IV", "PAIRS of a LONG and a SHORT one of a GROUP, both FOUND");
        SweetWaits x = new SweetWaits();
        put(x, 0, 100, 0);
        put(x, 0, 99, 0);
        e.due("0 is found", x.pairs(-1, 0, 2), 1);
        x.later(0, 0, -1);
        e.due("the long one is not found", x.pairs(-1, 0, 2), 0);
        x.later(0, 0, 0);
        x.later(1, 0, -1);
        e.due("the short one is not found", x.pairs(-1, 0, 0) + x.pairs(-1, 0, 2), 0);
        x.later(1, 0, 0);
        x.minute(1, 100, 0);
        e.due("two long ones", x.pairs(-1, 0, 2), 0);
        x.minute(0, 99, 0);
        x.minute(1, 99, 0);
        e.due("two short ones", x.pairs(-1, 0, 2), 0);
        x.minute(0, 100, 1);
        e.due("cut off at 100 is long", x.pairs(-1, 0, 2), 1);
        x.minute(1, 99, 1);
        e.due("cut off at 99 is neither", x.pairs(-1, 0, 2), 0);
        x.minute(1, 0, 0);
        e.due("took it at 0", x.pairs(-1, 0, 2), 1);
        x.terms(0, 0);
        e.due("nobody is short then", x.pairs(-1, 0, 2), 0);
        e.by("31", "ALIKE in FACTS (bits 0 .. 255): WON (what 0), LOST (1), EVEN (2).");
        SweetWaits y = new SweetWaits();
        put(y, 0, 150, 7);
        put(y, 0, 50, 6);
        put(y, 0, 50, 6);
        put(y, 0, 50, 6);
        put(y, 0, 50, 8);
        put(y, 0, 50, 7);
        put(y, 0, 50, 7);
        for (int facts : new int[] {0, 1, 255}) {
            e.due("won", y.pairs(-1, facts, 0), 3);
            e.due("lost", y.pairs(-1, facts, 1), 1);
            e.due("even", y.pairs(-1, facts, 2), 2);
        }
        e.by("31", "NONE.");
        for (int facts : new int[] {-1, 256, LOW, HIGH}) {
            e.due("no facts " + facts, y.pairs(-1, facts, 0), -1);
        }
        for (int what : new int[] {-1, 3, LOW, HIGH}) {
            e.due("no what " + what, y.pairs(-1, 0, what), -1);
        }
        for (int text : new int[] {-2, 0, LOW, HIGH}) {
            e.due("no text " + text, y.pairs(text, 0, 0), -1);
        }
        Check.text(y, "chance 5");
        e.due("of none", y.pairs(0, 0, 0), 0);
    }

    private static void alike(Edges e) {
        e.by("IV", "which are ALIKE in told FACTS (bits)");
        for (int fact = 0; fact < 8; fact++) {
            SweetWaits x = new SweetWaits();
            put(x, 0, 100, 5);
            put(x, 0, 99, 4);
            x.fact(0, fact, MOST[fact]);
            x.fact(1, fact, MOST[fact] - 1);
            int bit = 1 << fact;
            e.due("not alike in " + fact, x.pairs(-1, bit, 0), 0);
            e.due("alike in all but " + fact, x.pairs(-1, 255 - bit, 0), 1);
            e.due("alike in nothing", x.pairs(-1, 0, 0), 1);
            e.due("not alike in all", x.pairs(-1, 255, 0), 0);
            x.fact(1, fact, MOST[fact]);
            e.due("alike in " + fact, x.pairs(-1, bit, 0), 1);
            e.due("alike in all", x.pairs(-1, 255, 0), 1);
        }
        SweetWaits full = new SweetWaits();
        for (int i = 0; i < 120; i++) {
            put(full, 0, i < 60 ? 100 : 99, i < 60 ? 1 : 0);
        }
        e.due("as many as can be", full.pairs(-1, 255, 0), 3600);
        e.due("as many as can be", full.beside(-1, 1), 3600);
        e.due("as many as can be", full.looked(0), 3600);
        e.due("the nearest of these", full.beside(-1, 3), 0);
    }

    private static void beside(Edges e) {
        e.by("IV", "BESIDE are put those of FACTS 0 .. 5 that are CAUSES");
        SweetWaits x = new SweetWaits();
        e.due("at first", x.beside(-1, 0), 63);
        for (int fact = 0; fact < 8; fact++) {
            for (int meaning = 1; meaning < 3; meaning++) {
                x.meaning(fact, meaning);
                e.due("without " + fact, x.beside(-1, 0), 63 & ~(1 << fact));
            }
            x.meaning(fact, 0);
        }
        for (int fact = 0; fact < 8; fact++) {
            x.meaning(fact, 1 + fact % 2);
        }
        e.due("none", x.beside(-1, 0), 0);
        e.by("32", "WON less LOST of a GROUP with these put BESIDE (1), with nothing (2)");
        SweetWaits y = new SweetWaits();
        put(y, 0, 100, 5);
        put(y, 0, 99, 6);
        put(y, 1, 99, 6);
        put(y, 1, 99, 4);
        y.fact(1, 6, 3);
        y.fact(1, 7, 3);
        y.fact(3, 0, 5);
        e.due("alike in causes, kept and broken are none of these", y.beside(-1, 1), -1);
        e.due("-1 is no refusal here: nothing", y.beside(-1, 2), -1);
        y.meaning(5, 2);
        e.due("way comes of waiting", y.beside(-1, 1), -2);
        e.by("32", "NOTHING (-1,000,000) without such a GROUP, what.");
        for (int what : new int[] {-1, 4, LOW, HIGH}) {
            e.due("no what " + what, y.beside(-1, what), -1000000);
        }
        for (int text : new int[] {-2, 0, LOW, HIGH}) {
            for (int what = 0; what < 4; what++) {
                e.due("no text " + text, y.beside(text, what), -1000000);
            }
        }
        Check.text(y, "chance 5");
        int[] ofNone = {31, 0, 0, -1};
        for (int what = 0; what < 4; what++) {
            e.due("of none", y.beside(0, what), ofNone[what]);
        }
    }

    private static void nearest(Edges e) {
        e.by("32", "of all sets of FACTS 0 .. 7 that by which it is nearest to 0");
        for (int fact = 0; fact < 8; fact++) {
            SweetWaits x = new SweetWaits();
            put(x, 0, 100, 9);
            put(x, 0, 99, 8);
            put(x, 0, 99, 8);
            for (int other = 0; other < 8; other++) {
                x.fact(1, other, other == fact ? 0 : 1);
                x.fact(2, other, 1);
            }
            e.due("by fact " + fact, x.beside(-1, 3), 1 << fact);
        }
        SweetWaits all = new SweetWaits();
        put(all, 0, 100, 9);
        put(all, 0, 99, 8);
        for (int fact = 0; fact < 8; fact++) {
            all.fact(put(all, 0, 99, 8), fact, 1);
        }
        e.due("by all", all.beside(-1, 3), 255);
        all.fact(1, 7, 1);
        e.due("by all but one, in which one more is unlike: the lowest", all.beside(-1, 3), 191);
        SweetWaits last = new SweetWaits();
        put(last, 0, 99, 9);
        put(last, 0, 99, 9);
        put(last, 0, 99, 7);
        put(last, 0, 100, 6);
        last.fact(0, 0, 1);
        last.fact(1, 0, 1);
        // Lost thrice; alike in house: lost once.
        e.due("the long one is the last", last.beside(-1, 3), 1);
        last.minute(0, 0, 3);
        last.minute(1, 0, 3);
        e.due("of fewer than ahead of that", last.beside(-1, 3), 0);
        e.due("lost once", last.beside(-1, 2), -1);
        e.by("32", "of those with a PAIR that is WON or LOST, of alike ones the lowest bits (3; NONE without)");
        SweetWaits y = new SweetWaits();
        e.due("nobody", y.beside(-1, 3), -1);
        put(y, 0, 100, 9);
        put(y, 0, 99, 9);
        e.due("an even pair", y.beside(-1, 3), -1);
        int third = put(y, 1, 99, 8);
        y.fact(third, 1, 1);
        e.due("the even pair is alike in more, but does not count", y.beside(-1, 3), 0);
        y.later(1, 0, 10);
        e.due("won and lost: 0", y.beside(-1, 3), 0);
        int fourth = put(y, 2, 99, 8);
        y.fact(fourth, 1, 2);
        // Won twice, lost once with nothing; in wit, way: lost once: alike ones.
        e.due("1 and -1 are alike: the lowest", y.beside(-1, 3), 0);
        put(y, 3, 99, 8);
        // Won thrice, lost once; in wit: won once, lost once.
        e.due("2, and 0 by wit", y.beside(-1, 3), 2);
    }

    private static void hides(Edges e) {
        e.by("IV", "A FACT 0 .. 7 HIDES, if it is no CAUSE and is put BESIDE all the same.");
        SweetWaits x = new SweetWaits();
        for (int fact = 0; fact < 8; fact++) {
            int bit = 1 << fact;
            e.due("a cause", x.hides(255), 0);
            x.meaning(fact, 1);
            e.due("a mark", x.hides(255), bit);
            e.due("it is not put beside", x.hides(255 - bit), 0);
            x.meaning(fact, 2);
            e.due("it comes of waiting", x.hides(bit), bit);
            x.meaning(fact, 0);
        }
        e.by("33", "if told ones (bits) are put BESIDE: as bits. NONE.");
        for (int fact = 0; fact < 8; fact++) {
            x.meaning(fact, 1);
        }
        e.due("nothing", x.hides(0), 0);
        e.due("all", x.hides(255), 255);
        for (int facts : new int[] {-1, 256, 257, LOW, HIGH}) {
            e.due("no facts " + facts, x.hides(facts), -1);
        }
    }

    private static void looked(Edges e) {
        e.by("IV", "of each WAY WON less LOST (ALIKE in nothing) of those in it");
        SweetWaits x = new SweetWaits();
        for (int way : new int[] {0, 1, 23}) {
            int one = put(x, way, 100, 9);
            int other = put(x, way, 99, 8);
            for (int fact = 0; fact < 8; fact++) {
                if (fact != 5) {
                    x.fact(one, fact, 1);
                    x.fact(other, fact, 2);
                }
            }
        }
        put(x, 23, 99, 7);
        put(x, 1, 99, 10);
        put(x, 1, 99, 10);
        e.due("way 0", x.looked(0), 1);
        e.due("way 1", x.looked(1), -1);
        e.due("way 23", x.looked(23), 2);
        e.due("way 2", x.looked(2), 0);
        e.due("way 22", x.looked(22), 0);
        e.by("34", "NOTHING without.");
        for (int way : new int[] {-1, 24, LOW, HIGH}) {
            e.due("no way " + way, x.looked(way), -1000000);
        }
        e.by("34", "WON less LOST of a WAY (of all CHILDREN in it).");
        x.terms(1, 1);
        e.due("of another thing", x.looked(23), 0);
    }

    private static void best(Edges e) {
        e.by("IV", "BEST the greatest, of alike ones the lowest WAY");
        SweetWaits x = new SweetWaits();
        e.due("of none", x.best(), 0);
        put(x, 23, 100, 9);
        put(x, 23, 99, 8);
        e.due("the last way", x.best(), 23);
        put(x, 22, 100, 9);
        put(x, 22, 99, 8);
        e.due("alike: the lowest", x.best(), 22);
        put(x, 23, 99, 8);
        e.due("the greatest", x.best(), 23);
        put(x, 0, 100, 9);
        put(x, 0, 99, 8);
        put(x, 0, 99, 8);
        e.due("alike: the lowest", x.best(), 0);
        e.by("35", "BEST of the WAYS.");
        SweetWaits y = new SweetWaits();
        for (int way = 0; way < 24; way++) {
            put(y, way, 100, 8);
            put(y, way, 99, 9);
            e.due("a way of nobody, if there is one", y.best(), (way + 1) % 24);
        }
        put(y, 0, 99, 9);
        e.due("all have lost: the greatest is below 0", y.best(), 1);
        e.due("which is", y.looked(1), -1);
        y.later(47, 0, 8);
        e.due("the last way is even", y.best(), 23);
    }

    /** Of two found ones, who are exchanged whenever a DRAW of 2 is 0: how often they are as at first. */
    private static int asAtFirst(int shuffles, long seed) {
        long s = seed;
        boolean exchanged = false;
        int n = 0;
        for (int i = 0; i < shuffles; i++) {
            s = (s * 1103 + 12345) % 1000003;
            exchanged ^= s % 2 == 0;
            n += exchanged ? 0 : 1;
        }
        return n;
    }

    private static void draws(Edges e) {
        e.by("IV", "s becomes (s times 1103 and 12345) modulo 1,000,003, at first s is the SEED (0 .. 1,000,000)");
        SweetWaits x = new SweetWaits();
        put(x, 7, 100, 9);
        put(x, 7, 99, 8);
        // From 870345 s becomes 0, from 327279 1,000,002, from 241150 1,000,000.
        for (int seed : new int[] {0, 1, 1000000, 999999, 870345, 870344, 870346, 327279, 241150}) {
            for (int n : new int[] {1, 2, 3, 10, 99, 100}) {
                e.due(n + " from " + seed, x.paid(n, seed), asAtFirst(n, seed));
            }
        }
        e.due("the first from 870345 is even", x.paid(1, 870345), 0);
        e.due("the first from 327279 is even", x.paid(1, 327279), 0);
        e.due("the first from 0 is odd", x.paid(1, 0), 1);
        e.due("-1 can't be", x.paid(1, -1), -1);
        e.due("1,000,001 can't be", x.paid(1, 1000001), -1);
    }

    /** The same by the document's words, for one way: those found in order, long ones, short ones, others. */
    private static int paidBy(int[] tenths, int[] things, int shuffles, long seed) {
        int[] now = things.clone();
        long s = seed;
        int bar = Math.max(0, score(tenths, now));
        int n = 0;
        for (int i = 0; i < shuffles; i++) {
            for (int k = now.length - 1; k >= 1; k--) {
                s = (s * 1103 + 12345) % 1000003;
                int with = (int) (s % (k + 1));
                int kept = now[k];
                now[k] = now[with];
                now[with] = kept;
            }
            n += Math.max(0, score(tenths, now)) >= bar ? 1 : 0;
        }
        return n;
    }

    private static int score(int[] tenths, int[] things) {
        int sum = 0;
        for (int i = 0; i < tenths.length; i++) {
            for (int k = 0; k < tenths.length; k++) {
                sum += tenths[i] >= 100 && tenths[k] < 100 ? Integer.signum(things[i] - things[k]) : 0;
            }
        }
        return sum;
    }

    private static void shuffles(Edges e) {
        e.by("IV", "for each from the last but down to the second one it is exchanged with that of number DRAW of (its number,"
            + " counted from 0, and 1); each SHUFFLE goes on from the one ahead of it");
        int[] tenths = {100, 0, 150, 50, 200, 99, 99};
        int[] things = {5, 4, 9, 2, 3, 1, 3};
        for (int found = 2; found <= tenths.length; found++) {
            int[] t = java.util.Arrays.copyOf(tenths, found);
            int[] v = java.util.Arrays.copyOf(things, found);
            SweetWaits x = new SweetWaits();
            for (int i = 0; i < found; i++) {
                put(x, 3, t[i], v[i]);
                // One who is not found is passed over.
                x.minute(x.child(0, 0, 0, 0, 0, 3), 150, 0);
            }
            for (int seed : new int[] {0, 17, 4711, 1000000}) {
                for (int n : new int[] {1, 2, 7, 100}) {
                    e.due(found + " found, " + n + " from " + seed, x.paid(n, seed), paidBy(t, v, n, seed));
                }
            }
            for (int i = 0; i < found; i++) {
                e.due("the things are as they were", x.of(2 * i, 11), v[i]);
            }
        }
        e.by("IV", "SHUFFLES of the THINGS of all FOUND ones");
        SweetWaits one = new SweetWaits();
        e.due("none is found", one.paid(100, 5), 100);
        put(one, 0, 100, 5);
        e.due("one is found", one.paid(100, 5), 100);
        // From 0 the first DRAW of 2 is 1, of 3 is 0: the one who is neither long nor short gets the 5.
        put(one, 0, 99, 4);
        e.due("two are found", one.paid(1, 0), 1);
        int third = one.child(0, 0, 0, 0, 0, 9);
        one.later(third, 0, 1);
        e.due("one who is not tried is shuffled with them", one.paid(1, 0), 0);
        one.minute(third, 0, 2);
        e.due("so is one who had to go", one.paid(1, 0), 0);
        one.minute(third, 50, 1);
        e.due("so is one cut off", one.paid(1, 0), 0);
        one.later(third, 0, -1);
        e.due("one who is not found is not", one.paid(1, 0), 1);
    }

    private static void paid(Edges e) {
        e.by("IV", "how often the greatest of the WAYS is not below BEST's");
        SweetWaits x = new SweetWaits();
        put(x, 7, 100, 9);
        put(x, 7, 99, 8);
        // 12345 is odd: nothing is exchanged.
        e.due("as great", x.paid(1, 0), 1);
        e.due("less", x.paid(1, 870345), 0);
        x.later(0, 0, 7);
        e.due("more", x.paid(1, 870345), 1);
        e.due("lost, but a way of nobody is as great", x.paid(1, 0), 1);
        x.later(0, 0, 8);
        e.due("even ones", x.paid(100, 0), 100);
        e.by("36", "PAID for: how often. NONE.");
        for (int shuffles : new int[] {-1, 0, 101, LOW, HIGH}) {
            e.due("no shuffles " + shuffles, x.paid(shuffles, 0), -1);
        }
        for (int seed : new int[] {-1, 1000001, 1000002, LOW, HIGH}) {
            e.due("no seed " + seed, x.paid(1, seed), -1);
        }
        e.due("1", x.paid(1, 0), 1);
        e.due("100", x.paid(100, 1000000), 100);
        e.due("no refusal", x.count(6) + x.status(), 0);
        e.by("IV", "in so many (1 .. 100) SHUFFLES");
        e.due("0", x.paid(0, 0), -1);
        e.due("1", x.paid(1, 0), 1);
        e.due("100", x.paid(100, 0), 100);
        e.due("101", x.paid(101, 0), -1);
    }
}
