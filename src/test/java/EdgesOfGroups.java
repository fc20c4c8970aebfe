/** Boundaries of GROUPS and how they stay: Terms III, promises 15 .. 20. */
final class EdgesOfGroups {
    private static final int LOW = Integer.MIN_VALUE;
    private static final int HIGH = Integer.MAX_VALUE;
    // One of so many takes it, one after the other: just above a half together, and just below it.
    private static final int[] JUST_ABOVE = {74, 70, 67, 47, 5, 3};
    private static final int[] JUST_BELOW = {108, 67, 54, 47, 5, 3};
    private static final int[] JUST = {4, 3};

    private EdgesOfGroups() {
    }

    static void run(Edges e) {
        group(e);
        member(e);
        product(e);
        stays(e);
        half(e);
        right(e);
        goneOn(e);
        full(e);
    }

    private static void group(Edges e) {
        SweetWaits x = Edges.waiting(new int[][] {{99, 0}, {100, 0}, {99, 1}, {100, 1}, {0, 2}, {0, 3}});
        x.later(4, 0, 0);
        x.later(5, 1, 7);
        x.fact(3, 1, 9);
        Check.text(x, "in if wit=9");
        Check.text(x, "in if wit=8");
        e.by("15", "How many are in a GROUP (what 0)");
        e.due("all", x.group(-1, 0), 6);
        e.due("one", x.group(0, 0), 1);
        e.due("none", x.group(1, 0), 0);
        e.by("15", "TRIED of these (1; not those that had to GO)");
        e.due("tried", x.group(-1, 1), 4);
        x.minute(4, 0, 1);
        e.due("one more", x.group(-1, 1), 5);
        x.minute(4, 0, 2);
        e.by("15", "CUT OFF (2), LONG (3), SHORT (4), FOUND by the THING (5)");
        e.due("cut off", x.group(-1, 2), 2);
        e.due("long", x.group(-1, 3), 2);
        e.due("short", x.group(-1, 4), 1);
        e.due("found", x.group(-1, 5), 1);
        int[] one = {1, 1, 1, 1, 0, 0};
        for (int what = 0; what < 6; what++) {
            e.due("of one: " + what, x.group(0, what), one[what]);
            e.due("of none: " + what, x.group(1, what), 0);
        }
        x.terms(1, 1);
        e.due("found by thing 1", x.group(-1, 5), 1);
        x.terms(1, 2);
        e.due("found by thing 2", x.group(-1, 5), 0);
        e.by("15", "NONE.");
        for (int what : new int[] {-1, 6, LOW, HIGH}) {
            e.due("no what " + what, x.group(-1, what), -1);
        }
        for (int text : new int[] {-2, 2, 10, LOW, HIGH}) {
            e.due("no text " + text, x.group(text, 0), -1);
        }
        e.due("no refusal", x.count(6) + x.count(7) + x.status(), 0);
    }

    private static void member(Edges e) {
        e.by("16", "The i-th CHILD of a GROUP; NONE.");
        SweetWaits x = Edges.kids(120);
        x.fact(0, 1, 9);
        x.fact(60, 1, 9);
        x.fact(119, 1, 9);
        Check.text(x, "in if wit=9");
        Check.text(x, "chance 1");
        e.due("the first", x.member(0, 0), 0);
        e.due("the second", x.member(0, 1), 60);
        e.due("the last", x.member(0, 2), 119);
        e.due("behind it", x.member(0, 3), -1);
        e.due("below", x.member(0, -1), -1);
        e.due("the first of all", x.member(-1, 0), 0);
        e.due("the last of all", x.member(-1, 119), 119);
        e.due("behind it", x.member(-1, 120), -1);
        e.due("below", x.member(-1, -1), -1);
        e.due("of none", x.member(1, 0), -1);
        e.due("far", x.member(0, LOW), -1);
        e.due("far", x.member(0, HIGH), -1);
        for (int text : new int[] {-2, 2, LOW, HIGH}) {
            e.due("no text " + text, x.member(text, 0), -1);
        }
    }

    private static void product(Edges e) {
        e.by("III", "over all TENTHS up to that (it too) at which some of its TRIED ones TOOK it");
        SweetWaits x = Edges.waiting(new int[][] {{50, 0}, {200, 1}, {200, 1}, {0, 2}, {0, 3}});
        e.due("one ahead", x.stays(-1, 49), 1000000);
        e.due("it too", x.stays(-1, 50), 666666);
        e.due("one behind", x.stays(-1, 51), 666666);
        e.due("to the end", x.stays(-1, 200), 666666);
        x.minute(0, 0, 0);
        e.due("at 0", x.stays(-1, 0), 666666);
        x.minute(0, 200, 0);
        e.due("one ahead of the end", x.stays(-1, 199), 1000000);
        e.due("at the end", x.stays(-1, 200), 666666);
        e.by("III", "how many TOOK it then through how many TOOK it or were CUT OFF then or later");
        SweetWaits y = Edges.waiting(new int[][] {{50, 0}, {50, 0}, {49, 1}, {50, 1}, {51, 1}, {49, 0}});
        e.due("at 49: one of six", y.stays(-1, 49), 833333);
        e.due("at 50: two of four then", y.stays(-1, 50), 416666);
        y.minute(3, 49, 1);
        e.due("cut off ahead of 50", y.stays(-1, 50), 277777);
        y.minute(4, 49, 1);
        e.due("nobody is left", y.stays(-1, 50), 0);
        y.minute(4, 50, 1);
        e.due("cut off at 50 is there", y.stays(-1, 50), 277777);
        e.by("III", "told in millionths, cut (exactly)");
        e.due("two thirds", x.stays(-1, 200), 666666);
        SweetWaits z = chain(JUST_ABOVE, 0);
        e.due("just above a half", z.stays(-1, 200), 500000);
        z = chain(JUST_BELOW, 0);
        e.due("just below a half", z.stays(-1, 200), 499999);
        z = chain(JUST, 0);
        e.due("a half", z.stays(-1, 200), 500000);
        e.due("nobody was tried", Edges.kids(2).stays(-1, 200), 1000000);
        SweetWaits gone = Edges.waiting(new int[][] {{50, 0}, {60, 1}});
        e.due("nobody is there any more", gone.stays(-1, 200), 500000);
        e.due("nobody is there any more", gone.right(-1, 50, 200), 1000000);
    }

    /**
     * One of so many takes it at 10, 20, .. tenths, those that are too many are cut off ahead of the next; some more
     * are cut off at 5.
     */
    private static SweetWaits chain(int[] left, int more) {
        SweetWaits x = Edges.kids(left[0] + more);
        int child = 0;
        for (int i = 0; i < left.length; i++) {
            x.minute(child++, 10 + 10 * i, 0);
            int stay = i + 1 < left.length ? left[i + 1] : 0;
            int tenths = i + 1 < left.length ? 15 + 10 * i : 200;
            for (int gone = left[i] - 1 - stay; gone > 0; gone--) {
                x.minute(child++, tenths, 1);
            }
        }
        for (int i = 0; i < more; i++) {
            x.minute(child++, 5, 1);
        }
        return x;
    }

    private static void stays(Edges e) {
        e.by("17", "NONE (TENTHS not 0 .. 200)");
        SweetWaits x = Edges.waiting(new int[][] {{0, 0}, {200, 0}});
        Check.text(x, "in if waited=200");
        Check.text(x, "chance 5");
        e.due("0", x.stays(-1, 0), 500000);
        e.due("200", x.stays(-1, 200), 0);
        for (int tenths : new int[] {-1, 201, LOW, HIGH}) {
            e.due("no tenths " + tenths, x.stays(-1, tenths), -1);
        }
        for (int text : new int[] {-2, 2, LOW, HIGH}) {
            e.due("no text " + text, x.stays(text, 0), -1);
        }
        e.by("17", "STAYS of a GROUP.");
        e.due("of one", x.stays(0, 199), 1000000);
        e.due("of one", x.stays(0, 200), 0);
        e.due("of none", x.stays(1, 200), 1000000);
    }

    private static void half(Edges e) {
        e.by("III", "HALF: the fewest TENTHS at which it is a half or less");
        e.due("just a half", chain(JUST, 0).half(-1), 20);
        e.due("just above it", chain(JUST_ABOVE, 0).half(-1), -1);
        e.due("just below it", chain(JUST_BELOW, 0).half(-1), 60);
        SweetWaits x = Edges.waiting(new int[][] {{0, 0}, {1, 0}, {200, 1}});
        e.due("the fewest", x.half(-1), 1);
        x.minute(1, 0, 0);
        e.due("at 0", x.half(-1), 0);
        x.minute(1, 200, 0);
        e.due("at 200", x.half(-1), 200);
        e.by("18", "HALF of a GROUP; NONE (it is never so little).");
        x.minute(1, 200, 1);
        e.due("never", x.half(-1), -1);
        e.due("nobody", new SweetWaits().half(-1), -1);
        Check.text(x, "in if waited=0");
        Check.text(x, "chance 5");
        e.due("all at once", x.half(0), 0);
        e.due("of none", x.half(1), -1);
        for (int text : new int[] {-2, 2, LOW, HIGH}) {
            e.due("no text " + text, x.half(text), -1);
        }
    }

    private static void right(Edges e) {
        e.by("III", "RIGHT: STAYS at some TENTHS through STAYS at others (not more), both as fractions, in millionths, cut");
        SweetWaits x = Edges.kids(14);
        for (int i = 0; i < 14; i++) {
            x.minute(i, i < 12 ? 10 : i == 12 ? 20 : 30, i < 13 ? 0 : 1);
        }
        // 1/7 and 1/14: in millionths 142857 and 71428, whose share would be cut below a half.
        e.due("stays", x.stays(-1, 10), 142857);
        e.due("stays", x.stays(-1, 20), 71428);
        e.due("as fractions", x.right(-1, 10, 20), 500000);
        e.due("from 0", x.right(-1, 0, 10), 142857);
        e.due("cut", x.right(-1, 9, 20), 71428);
        e.due("at the same", x.right(-1, 20, 20), 1000000);
        e.due("one ahead", x.right(-1, 19, 20), 500000);
        e.due("one behind", x.right(-1, 20, 21), 1000000);
        e.by("III", "none, if that is 0");
        x.minute(13, 19, 1);
        e.due("to 0", x.right(-1, 19, 20), 0);
        e.due("from 0", x.right(-1, 20, 20), -1);
        e.due("from 0", x.right(-1, 20, 200), -1);
        e.due("from 0", x.right(-1, 200, 200), -1);
        SweetWaits all = Edges.waiting(new int[][] {{200, 0}, {200, 0}});
        e.due("all at the end: to 0", all.right(-1, 199, 200), 0);
        e.due("all at the end: from 0", all.right(-1, 200, 200), -1);
        all.minute(0, 0, 0);
        all.minute(1, 0, 0);
        e.due("all at once: from 0", all.right(-1, 0, 0), -1);
        e.due("all at once: from 0", all.right(-1, 0, 200), -1);
        all.minute(1, 0, 1);
        e.due("all but one", all.right(-1, 0, 200), 1000000);
        e.by("19", "STAYS at to through STAYS at from.");
        e.due("to 10", x.right(-1, 9, 10), 142857);
        e.by("19", "NONE (to below from, too)");
        e.due("to below from", x.right(-1, 10, 9), -1);
        e.due("to as from", x.right(-1, 10, 10), 1000000);
        e.due("below", x.right(-1, -1, 5), -1);
        e.due("the least", x.right(-1, 0, 0), 1000000);
        e.due("above", x.right(-1, 5, 201), -1);
        e.due("the most", x.right(-1, 5, 200), 0);
        e.due("both above", x.right(-1, 201, 201), -1);
        e.due("both below", x.right(-1, -1, -1), -1);
        e.due("far", x.right(-1, LOW, HIGH), -1);
        for (int text : new int[] {-2, 0, LOW, HIGH}) {
            e.due("no text " + text, x.right(text, 0, 0), -1);
        }
    }

    private static void goneOn(Edges e) {
        e.by("20", "to the fewest TENTHS, not fewer than its own, at which STAYS is a half or less of what it is at its own");
        SweetWaits x = Edges.waiting(new int[][] {{10, 0}, {10, 1}, {20, 0}, {30, 0}, {30, 1}});
        // STAYS: 4/5 at 10, 4/5 * 2/3 at 20, 4/5 * 2/3 * 1/2 at 30. The one cut off at 10 goes on to 30, at 1/3 of its own.
        e.due("30 and 200", x.goneOn(-1), 230);
        x.minute(4, 20, 1);
        // 4/5; 2/3 at 20; 0 at 30.
        e.due("30 and 30", x.goneOn(-1), 60);
        x.minute(4, 19, 1);
        // Those who are left at 20: two; at 20 it is a half of that at 10 and at 19.
        e.due("20 and 20", x.goneOn(-1), 40);
        e.due("just a half of its own", chain(JUST, 1).goneOn(-1), 20 + 200 * 2);
        int gained = chain(JUST_ABOVE, 1).goneOn(-1) - chain(JUST_ABOVE, 0).goneOn(-1);
        e.due("just above a half of its own", gained, 200);
        gained = chain(JUST_BELOW, 1).goneOn(-1) - chain(JUST_BELOW, 0).goneOn(-1);
        e.due("just below it", gained, 60);
        e.by("20", "(200, if there are none such, or that is 0)");
        SweetWaits y = Edges.waiting(new int[][] {{0, 1}});
        e.due("none such", y.goneOn(-1), 200);
        y.minute(0, 200, 1);
        e.due("its own is 200", y.goneOn(-1), 200);
        SweetWaits z = Edges.waiting(new int[][] {{0, 1}, {200, 0}});
        e.due("at the end", z.goneOn(-1), 200);
        z.minute(1, 199, 0);
        e.due("just ahead of it", z.goneOn(-1), 199);
        z.minute(1, 0, 0);
        e.due("at once with it: none such", z.goneOn(-1), 200);
        e.by("20", "NONE.");
        Check.text(z, "in if waited=9");
        for (int text : new int[] {-2, 1, LOW, HIGH}) {
            e.due("no text " + text, z.goneOn(text), -1);
        }
        e.due("of none", z.goneOn(0), 0);
        z.minute(0, 0, 0);
        e.due("none was cut off", z.goneOn(-1), 0);
    }

    private static void full(Edges e) {
        e.by("20", "How many TENTHS all of a GROUP who were CUT OFF would wait together");
        SweetWaits x = Edges.kids(120);
        for (int i = 0; i < 120; i++) {
            x.minute(i, i, 1);
        }
        e.due("120 times 200", x.goneOn(-1), 24000);
        x.minute(0, 200, 0);
        e.due("all go on to the last one's", x.goneOn(-1), 119 * 200);
        x.minute(0, 150, 0);
        e.due("all go on to the last one's", x.goneOn(-1), 119 * 150);
    }
}
