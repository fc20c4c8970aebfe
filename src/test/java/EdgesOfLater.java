/** Boundaries of what was FOUND later: Terms IV, promises 28, 29. */
final class EdgesOfLater {
    private static final int LOW = Integer.MIN_VALUE;
    private static final int HIGH = Integer.MAX_VALUE;

    private EdgesOfLater() {
    }

    static void run(Edges e) {
        means(e);
        bounds(e);
        apart(e);
    }

    private static void means(Edges e) {
        e.by("IV", "MEAN of those FOUND, and of all, if those not FOUND had 0, or 999; in hundredths, cut");
        SweetWaits x = Edges.kids(3);
        x.later(0, 0, 1);
        x.later(1, 0, 0);
        e.due("one of two", x.bounds(-1, 0), 50);
        e.due("one of three, cut", x.bounds(-1, 1), 33);
        e.due("1000 of three, cut", x.bounds(-1, 2), 33333);
        x.later(2, 0, 1);
        e.due("two of three, cut", x.bounds(-1, 0), 66);
        e.due("all are found: the least is the mean", x.bounds(-1, 1), 66);
        e.due("all are found: the greatest is the mean", x.bounds(-1, 2), 66);
        SweetWaits full = Edges.kids(120);
        e.due("none of 120", full.bounds(-1, 0), -1);
        e.due("none of 120", full.bounds(-1, 1), 0);
        e.due("none of 120", full.bounds(-1, 2), 99900);
        for (int i = 0; i < 120; i++) {
            full.later(i, 0, 999);
        }
        for (int what = 0; what < 3; what++) {
            e.due("120 of 999", full.bounds(-1, what), 99900);
        }
        full.later(119, 0, 998);
        for (int what = 0; what < 3; what++) {
            e.due("one less", full.bounds(-1, what), 99899);
        }
        full.later(119, 0, -1);
        e.due("119 of 999", full.bounds(-1, 0), 99900);
        e.due("119 of 999 and a 0", full.bounds(-1, 1), 99067);
        e.due("119 of 999 and one more", full.bounds(-1, 2), 99900);
        SweetWaits y = Edges.waiting(new int[][] {{0, 2}, {0, 3}, {50, 1}});
        for (int i = 0; i < 3; i++) {
            y.later(i, 0, 5);
        }
        e.due("whether it was tried is nothing to it", y.bounds(-1, 0), 500);
    }

    private static void bounds(Edges e) {
        e.by("28", "MEAN of those FOUND (what 0), the least (1), the greatest (2) of all.");
        SweetWaits x = Edges.kids(2);
        x.later(0, 3, 7);
        x.fact(1, 1, 1);
        Check.text(x, "in if wit=1");
        Check.text(x, "chance 5");
        x.terms(1, 3);
        e.due("mean", x.bounds(-1, 0), 700);
        e.due("least", x.bounds(-1, 1), 350);
        e.due("greatest", x.bounds(-1, 2), 50300);
        e.by("28", "NONE (without any of those)");
        e.due("a group of whom none is found", x.bounds(0, 0), -1);
        e.due("the least of these", x.bounds(0, 1), 0);
        e.due("the greatest of these", x.bounds(0, 2), 99900);
        for (int what = 0; what < 3; what++) {
            e.due("a group of none", x.bounds(1, what), -1);
        }
        x.terms(1, 2);
        e.due("none by another thing", x.bounds(-1, 0), -1);
        for (int what : new int[] {-1, 3, LOW, HIGH}) {
            e.due("no what " + what, x.bounds(-1, what), -1);
        }
        for (int text : new int[] {-2, 2, LOW, HIGH}) {
            e.due("no text " + text, x.bounds(text, 1), -1);
        }
    }

    private static void apart(Edges e) {
        e.by("29", "(the least less the greatest; the greatest less the least)");
        SweetWaits x = Edges.kids(4);
        for (int i = 0; i < 4; i++) {
            x.fact(i, 1, i / 2);
            x.later(i, 0, i == 1 ? -1 : 10 * i);
        }
        Check.text(x, "in if wit=0");
        Check.text(x, "in if wit=1");
        Check.text(x, "chance 5");
        // The first: 0 .. 49950; the other one: 2500.
        e.due("least", x.apart(0, 1, 0), -2500);
        e.due("greatest", x.apart(0, 1, 1), 49950 - 2500);
        e.due("turned, least", x.apart(1, 0, 0), 2500 - 49950);
        e.due("turned, greatest", x.apart(1, 0, 1), 2500);
        e.due("itself, least", x.apart(0, 0, 0), -49950);
        e.due("itself, greatest", x.apart(0, 0, 1), 49950);
        e.due("-1 is no refusal", x.apart(1, 1, 0), 0);
        SweetWaits y = Edges.kids(2);
        y.later(0, 0, 999);
        y.later(1, 0, 0);
        y.fact(1, 1, 1);
        Check.text(y, "in if wit=0");
        Check.text(y, "in if wit=1");
        e.due("as far as can be", y.apart(0, 1, 0), 99900);
        e.due("as far as can be", y.apart(1, 0, 1), -99900);
        e.by("29", "NOTHING (-1,000,000) without any");
        for (int what = 0; what < 2; what++) {
            e.due("the first of none", x.apart(2, 0, what), -1000000);
            e.due("the other one of none", x.apart(0, 2, what), -1000000);
            e.due("both of none", x.apart(2, 2, what), -1000000);
        }
        for (int what : new int[] {-1, 2, LOW, HIGH}) {
            e.due("no what " + what, x.apart(0, 1, what), -1000000);
        }
        for (int text : new int[] {-2, 3, LOW, HIGH}) {
            e.due("no text " + text, x.apart(text, 0, 0), -1000000);
            e.due("no other " + text, x.apart(0, text, 0), -1000000);
        }
        x.terms(1, 1);
        e.due("none is found, but there are some", x.apart(0, 1, 0), -99900);
        e.due("none is found, but there are some", x.apart(0, 1, 1), 99900);
    }
}
