/** Boundaries of LASTS, of WORLDS and of LIKE: Terms IV, V, promises 37 .. 42. */
final class EdgesOfWorlds {
    private static final int LOW = Integer.MIN_VALUE;
    private static final int HIGH = Integer.MAX_VALUE;

    private EdgesOfWorlds() {
    }

    static void run(Edges e) {
        lasting(e);
        lasts(e);
        trust(e);
        draws(e);
        minutes(e);
        nextOne(e);
        later(e);
        refused(e);
        world(e);
        drawn(e);
        like(e);
    }

    /** Of two children: which of 0 .. 3 their pair is; -1, if it is none of these. */
    private static int pair(int tenths, int how, int otherTenths, int otherHow) {
        SweetWaits x = Edges.waiting(new int[][] {{tenths, how}, {otherTenths, otherHow}});
        x.fact(1, 1, 1);
        Check.text(x, "in if wit=0");
        Check.text(x, "in if wit=1");
        int found = -1;
        for (int what = 0; what < 4; what++) {
            int n = x.lasts(0, 1, what);
            found = n == 1 && found == -1 ? what : n == 0 ? found : -9;
        }
        return found;
    }

    private static void lasting(Edges e) {
        e.by("IV", "if it TOOK it later than the other one TOOK it, or was CUT OFF then or later");
        e.due("took later", pair(51, 0, 50, 0), 0);
        e.due("took earlier", pair(49, 0, 50, 0), 1);
        e.due("cut off later", pair(51, 1, 50, 0), 0);
        e.due("cut off then", pair(50, 1, 50, 0), 0);
        e.due("cut off earlier", pair(49, 1, 50, 0), 3);
        e.due("turned: cut off later", pair(50, 0, 51, 1), 1);
        e.due("turned: cut off then", pair(50, 0, 50, 1), 1);
        e.due("turned: cut off earlier", pair(50, 0, 49, 1), 3);
        e.due("the least and the most", pair(200, 0, 0, 0), 0);
        e.due("cut off at 0, took at 0", pair(0, 1, 0, 0), 0);
        e.due("took at 200, cut off at 200", pair(200, 0, 200, 1), 1);
        e.by("IV", "they are EVEN, if both TOOK it at once; else it is not SURE");
        e.due("both at 50", pair(50, 0, 50, 0), 2);
        e.due("both at 0", pair(0, 0, 0, 0), 2);
        e.due("both at 200", pair(200, 0, 200, 0), 2);
        e.due("both cut off then", pair(50, 1, 50, 1), 3);
        e.due("both cut off", pair(0, 1, 200, 1), 3);
        e.by("IV", "of two TRIED ones");
        e.due("not tried", pair(0, 3, 50, 0), -1);
        e.due("had to go", pair(0, 2, 0, 0), -1);
        e.due("the other one is not tried", pair(50, 1, 0, 3), -1);
        e.due("the other one had to go", pair(50, 0, 0, 2), -1);
    }

    private static void lasts(Edges e) {
        e.by("IV", "pairs of one of the first and another CHILD of the second");
        SweetWaits x = Edges.waiting(new int[][] {{50, 0}});
        Check.text(x, "in if wit=0");
        Check.text(x, "in if wit=1");
        for (int what = 0; what < 4; what++) {
            e.due("one alone is no pair", x.lasts(-1, -1, what), 0);
        }
        x.child(0, 1, 0, 0, 0, 0);
        x.minute(1, 50, 0);
        e.due("two, either way", x.lasts(-1, -1, 2), 2);
        e.due("one of these", x.lasts(0, -1, 2), 1);
        e.due("the other one", x.lasts(-1, 1, 2), 1);
        e.due("one in both", x.lasts(0, 0, 2), 0);
        SweetWaits full = Edges.kids(120);
        for (int i = 0; i < 120; i++) {
            full.minute(i, 5, 0);
        }
        e.due("as many as can be", full.lasts(-1, -1, 2), 120 * 119);
        e.by("37", "NONE.");
        for (int what : new int[] {-1, 4, LOW, HIGH}) {
            e.due("no what " + what, x.lasts(-1, -1, what), -1);
        }
        for (int text : new int[] {-2, 2, LOW, HIGH}) {
            e.due("no text " + text, x.lasts(text, -1, 0), -1);
            e.due("no other " + text, x.lasts(-1, text, 0), -1);
        }
        e.by("37", "the first one LASTS longer (what 0), the other one (1), EVEN (2), not SURE (3)");
        x.minute(1, 51, 0);
        int[] want = {0, 1, 0, 0};
        for (int what = 0; what < 4; what++) {
            e.due("what " + what, x.lasts(0, 1, what), want[what]);
            e.due("turned " + what, x.lasts(1, 0, what), want[what < 2 ? 1 - what : what]);
        }
    }

    private static void trust(Edges e) {
        e.by("IV", "TRUST: so by those DEALT 1 and those DEALT 2");
        SweetWaits x = Edges.waiting(new int[][] {{51, 0}, {50, 0}, {0, 0}});
        for (int what = 0; what < 4; what++) {
            e.due("nobody was dealt any", x.trust(what), 0);
        }
        x.dealt(0, 1);
        e.due("nobody was dealt 2", x.trust(0) + x.trust(1) + x.trust(2) + x.trust(3), 0);
        x.dealt(1, 2);
        int[] want = {1, 0, 0, 0};
        for (int what = 0; what < 4; what++) {
            e.due("what " + what, x.trust(what), want[what]);
        }
        x.minute(0, 49, 0);
        e.due("the other one", x.trust(1), 1);
        x.minute(0, 50, 0);
        e.due("even", x.trust(2), 1);
        x.minute(0, 49, 1);
        e.due("not sure", x.trust(3), 1);
        x.dealt(0, 2);
        e.due("both dealt 2", x.trust(0) + x.trust(1) + x.trust(2) + x.trust(3), 0);
        e.by("38", "NONE.");
        for (int what : new int[] {-1, 4, LOW, HIGH}) {
            e.due("no what " + what, x.trust(what), -1);
        }
        e.due("0", x.trust(0), 0);
        e.due("3", x.trust(3), 0);
    }

    /** DRAWS of 100 from a seed. */
    private static int[] hundreds(long seed, int n) {
        int[] draws = new int[n];
        long s = seed;
        for (int i = 0; i < n; i++) {
            s = (s * 1103 + 12345) % 1000003;
            draws[i] = (int) (s % 100);
        }
        return draws;
    }

    private static void draws(Edges e) {
        e.by("V", "a DRAW of 100: below CHANCE it takes it in that minute; else it waits on");
        // 0: 45; 870345: 0; 327279: 1,000,002, so 2; 633717: 99; 176780: 100, so 0; 940155: 199, so 99.
        int[] seeds = {0, 870345, 327279, 633717, 176780, 940155, 241150, 1000000};
        int[] draw = {45, 0, 2, 99, 0, 99, 0, hundreds(1000000, 1)[0]};
        for (int i = 0; i < seeds.length; i++) {
            SweetWaits x = Edges.kids(1);
            x.terms(2, 1);
            Check.text(x, "chance " + draw[i]);
            Check.text(x, "chance " + (draw[i] + 1));
            e.due("not below, from " + seeds[i], x.run(0, seeds[i]), draw[i] == 0 ? 0 : 1);
            e.due("below, from " + seeds[i], x.run(1, seeds[i]), draw[i] == 99 ? 1 : 0);
        }
        e.by("IV", "a DRAW of n is the new s modulo n");
        SweetWaits x = Edges.kids(120);
        x.terms(2, 1);
        for (int chance = 1; chance < 100; chance += 14) {
            int law = Check.text(x, "chance " + chance);
            for (int seed : new int[] {0, 1, 500000, 1000000}) {
                int waiting = 0;
                for (int d : hundreds(seed, 120)) {
                    waiting += d >= chance ? 1 : 0;
                }
                e.due("chance " + chance + " from " + seed, x.run(law, seed), waiting);
            }
        }
    }

    private static void minutes(Edges e) {
        e.by("V", "each CHILD in turn, minute by minute, up to END");
        for (int end : new int[] {1, 2, 19, 20}) {
            SweetWaits x = Edges.kids(120);
            x.terms(2, end);
            Check.text(x, "chance 3+minute");
            for (int seed : new int[] {0, 77, 1000000}) {
                int[] draws = hundreds(seed, 120 * 20);
                int at = 0;
                int waiting = 0;
                int lasted = x.run(0, seed);
                for (int child = 0; child < 120; child++) {
                    int minute = 0;
                    while (minute < end && draws[at++] >= 3 + minute) {
                        minute++;
                    }
                    e.due("minutes of " + child, x.world(child, 0), minute);
                    e.due("takes it: " + child, x.world(child, 1), minute < end ? 1 : 0);
                    waiting += minute == end ? 1 : 0;
                }
                e.due("wait to " + end, lasted, waiting);
            }
        }
    }

    /** Each child's DRAWS begin where those of the one ahead of it ended. */
    private static void nextOne(Edges e) {
        e.by("V", "else it waits on; the next one then");
        SweetWaits x = Edges.kids(3);
        x.terms(2, 2);
        // From 0: 45 41, 89 57, 60 50; by 46: 45, 41, 89 57.
        Check.text(x, "chance 45");
        Check.text(x, "chance 46");
        Check.text(x, "chance 42");
        int[][] want = {{1, 2, 2}, {0, 0, 2}, {1, 2, 2}};
        for (int law = 0; law < 3; law++) {
            x.run(law, 0);
            for (int child = 0; child < 3; child++) {
                e.due("minutes of " + child + " by " + law, x.world(child, 0), want[law][child]);
            }
        }
    }

    private static void later(Edges e) {
        e.by("V", "what \"later\" tells of it then (waited: 10 times the minutes), 0 .. 999 (else the nearest), 0 without");
        String[] sums = {"0", "0-1", "1", "998", "999", "1000", "0-1000*1000*1000", "1000*1000*1000", "waited",
            "5/[waited-200]"};
        int[] want = {0, 0, 1, 998, 999, 999, 0, 999, 200, 0};
        SweetWaits x = Edges.kids(1);
        x.terms(2, 20);
        x.minute(0, 7, 0);
        for (int i = 0; i < sums.length; i++) {
            Check.text(x, "chance 1;later " + sums[i]);
            e.due("waits to the end", x.run(i, 0), 1);
            e.due("later " + sums[i], x.world(0, 2), want[i]);
        }
        SweetWaits y = Edges.kids(1);
        y.minute(0, 7, 0);
        Check.text(y, "chance 99;later waited+1");
        Check.text(y, "chance 99");
        Check.text(y, "chance 1;later 5 if waited=10 and minute=0");
        y.run(0, 0);
        e.due("it took it at once: waited is 0", y.world(0, 2), 1);
        y.run(1, 0);
        e.due("without", y.world(0, 2), 0);
        y.terms(2, 1);
        y.run(2, 0);
        e.due("one minute: waited is 10", y.world(0, 2), 5);
        e.due("its own thing stays", y.of(0, 11), -1);
        e.due("its own wait stays", y.of(0, 9), 7);
    }

    private static void refused(Edges e) {
        e.by("39", "A WORLD, kept as the latest: how many CHILDREN wait to END.");
        SweetWaits x = new SweetWaits();
        Check.text(x, "chance 1;later 3");
        Check.text(x, "chance 99;later 4");
        e.due("of nobody", x.run(0, 0), 0);
        e.due("it is there", x.world(-1, 0), 0);
        x.child(0, 0, 0, 0, 0, 0);
        e.due("of one", x.run(0, 0), 1);
        e.due("the latest", x.world(0, 2), 3);
        e.due("none waits", x.run(1, 0), 0);
        e.due("the latest", x.world(0, 2), 4);
        e.due("status", x.status(), 0);
        e.by("39", "-1");
        for (int seed : new int[] {-1, 1000001, 1000002, LOW, HIGH}) {
            e.due("no seed " + seed, x.run(0, seed), -1);
            e.due("status", x.status(), -1);
        }
        e.due("the latest stays", x.world(0, 2), 4);
        e.by("39", "-2");
        for (int text : new int[] {-1, -2, 2, 10, LOW, HIGH}) {
            e.due("no text " + text, x.run(text, 0), -2);
            e.due("status", x.status(), -2);
        }
        e.due("the latest stays", x.world(0, 2), 4);
        e.by("IV", "at first s is the SEED (0 .. 1,000,000)");
        e.due("0", x.run(0, 0), 1);
        e.so("1,000,000", x.run(0, 1000000) >= 0);
        e.due("1,000,001", x.run(0, 1000001), -1);
        e.due("-1", x.run(0, -1), -1);
    }

    private static void world(Edges e) {
        e.by("40", "NONE.");
        SweetWaits x = Edges.kids(2);
        for (int what = 0; what < 3; what++) {
            e.due("ahead of any", x.world(0, what), -1);
            e.due("ahead of any", x.world(-1, what), -1);
        }
        Check.text(x, "chance 1;later 999");
        x.run(0, 0);
        for (int what : new int[] {-1, 3, LOW, HIGH}) {
            e.due("no what " + what, x.world(0, what), -1);
            e.due("no what " + what, x.world(-1, what), -1);
        }
        for (int child : new int[] {-2, 2, 119, 120, LOW, HIGH}) {
            e.due("no child " + child, x.world(child, 0), -1);
        }
        x.child(0, 0, 0, 0, 0, 0);
        e.due("one who came later", x.world(2, 0), -1);
        e.due("the last one then", x.world(1, 0), 15);
        e.by("40", "the minutes it waited (what 0), whether it takes it (1; 1, 0), LATER (2)");
        int[] want = {15, 0, 999};
        for (int what = 0; what < 3; what++) {
            e.due("what " + what, x.world(0, what), want[what]);
        }
        e.by("40", "of all (child NONE) the sum of it");
        for (int what = 0; what < 3; what++) {
            e.due("what " + what, x.world(-1, what), 2 * want[what]);
        }
        SweetWaits full = Edges.kids(120);
        full.terms(2, 20);
        Check.text(full, "chance 1;later 999");
        int lasted = full.run(0, 0);
        e.due("all that can be", full.world(-1, 2), 120 * 999);
        e.due("some take it", full.world(-1, 1), 120 - lasted);
        e.so("some wait to the end", full.world(-1, 0) >= 20 * lasted && full.world(-1, 0) <= 20 * 120);
        e.by("V", "the latest WORLD");
        x.image(0);
        x.run(0, 0);
        e.due("three", x.world(2, 0), 15);
        x.back(0);
        e.due("back leaves it", x.world(2, 0), 15);
    }

    private static void drawn(Edges e) {
        e.by("41", "(LONG: those that waited to END; SHORT: others; LATER in place of the THING)");
        SweetWaits x = Edges.kids(2);
        x.fact(1, 1, 1);
        x.terms(2, 2);
        x.terms(0, 200);
        // By these DRAWS the first one waits both minutes, and the other one takes it where its chance is 99.
        int[] draws = hundreds(327279, 4);
        e.so("draws", draws[0] == 2 && draws[1] > 1 && draws[2] > 1 && draws[3] > 1 && draws[3] < 99);
        Check.text(x, "chance 1;later 5;chance 99 if wit=1;later 4 if wit=1");
        Check.text(x, "chance 1;later 5;chance 99 if wit=1 and minute=1;later 4 if wit=1");
        Check.text(x, "chance 1;later 5;chance 99 if wit=1 and minute=1;later 6 if wit=1");
        Check.text(x, "chance 1;later 5;chance 99 if wit=1 and minute=1");
        Check.text(x, "chance 1;later 5;later 4 if wit=1");
        int[] want = {1, 1, -1, 0, 0};
        int[] waited = {0, 1, 1, 1, 2};
        for (int law = 0; law < 5; law++) {
            x.run(law, 327279);
            e.due("the first one waits", x.world(0, 0), 2);
            e.due("the other one", x.world(1, 0), waited[law]);
            e.due("drawn", x.drawn(0), want[law]);
        }
        drawnOfMany(e);
        e.by("41", "ALIKE in FACTS (0 .. 255) as they were when it ran");
        x.run(1, 327279);
        x.fact(1, 1, 0);
        e.due("unlike then", x.drawn(2), 0);
        e.due("alike in others", x.drawn(253), 1);
        x.fact(0, 0, 5);
        e.due("alike then", x.drawn(1), 1);
        x.terms(2, 20);
        e.due("END as it was then", x.drawn(0), 1);
        x.child(0, 0, 0, 0, 0, 0);
        e.due("one who came later", x.drawn(0), 1);
        e.by("41", "NOTHING without.");
        for (int facts : new int[] {-1, 256, LOW, HIGH}) {
            e.due("no facts " + facts, x.drawn(facts), -1000000);
        }
        e.due("0", x.drawn(0), 1);
        e.due("255", x.drawn(255), 0);
        SweetWaits y = Edges.kids(2);
        e.due("without a world", y.drawn(0), -1000000);
        Check.text(y, "in");
        y.run(1, 0);
        e.due("one that was refused is none", y.drawn(0), -1000000);
        y.run(0, 0);
        e.so("with one", y.drawn(0) > -1000000);
    }

    /** Of 120 children, half of whom mostly take it, by what world tells of each. */
    private static void drawnOfMany(Edges e) {
        SweetWaits x = Edges.kids(120);
        for (int i = 0; i < 120; i += 2) {
            x.fact(i, 1, 1 + i % 9);
        }
        Check.text(x, "chance 1;chance 40 if wit>0;later wit*3+waited/[wit+1]");
        for (int seed : new int[] {0, 5, 1000000}) {
            x.run(0, seed);
            int[] sum = new int[2];
            for (int i = 0; i < 120; i++) {
                for (int k = 0; k < 120; k++) {
                    boolean pair = x.world(i, 1) == 0 && x.world(k, 1) == 1;
                    int sign = pair ? Integer.signum(x.world(i, 2) - x.world(k, 2)) : 0;
                    sum[0] += sign;
                    sum[1] += x.of(i, 1) == x.of(k, 1) ? sign : 0;
                }
            }
            e.due("all from " + seed, x.drawn(0), sum[0]);
            e.due("alike in wit from " + seed, x.drawn(2), sum[1]);
        }
    }

    private static void like(Edges e) {
        e.by("V", "LIKE a CHILD are all others that are ALIKE to it in told FACTS.");
        SweetWaits x = Edges.kids(1);
        e.due("nobody else", x.like(0, 0, 0), 0);
        e.due("nobody else", x.like(0, 255, 0), 0);
        SweetWaits full = Edges.kids(120);
        e.due("all others of the first", full.like(0, 255, 0), 119);
        e.due("all others of the last", full.like(119, 255, 0), 119);
        full.fact(119, 7, 1);
        e.due("but one", full.like(0, 255, 0), 118);
        e.due("nobody", full.like(119, 255, 0), 0);
        e.due("in other facts", full.like(119, 127, 0), 119);
        e.by("42", "how many (what 0), LONG ones (1), SHORT ones (2), FOUND ones (3), of these those with more of the THING");
        SweetWaits y = Edges.waiting(new int[][] {{100, 0}, {100, 0}, {99, 0}, {99, 1}, {100, 1}, {0, 2}});
        for (int i = 0; i < 4; i++) {
            y.later(i, 0, 499 + i % 3);
        }
        y.later(0, 0, 500);
        y.later(5, 0, 3);
        int[] want = {5, 2, 1, 4, 1};
        for (int what = 0; what < 5; what++) {
            e.due("what " + what, y.like(0, 0, what), want[what]);
        }
        y.later(0, 0, 501);
        e.due("none has more", y.like(0, 0, 4), 0);
        y.later(0, 0, 0);
        e.due("all have more", y.like(0, 0, 4), 4);
        e.by("42", "(4; it not FOUND: NONE)");
        e.due("not found", y.like(4, 0, 4), -1);
        e.due("but the others are", y.like(4, 0, 3), 5);
        y.later(4, 0, 0);
        e.due("found", y.like(4, 0, 4), 4);
        y.terms(1, 1);
        e.due("not found by another thing", y.like(4, 0, 4), -1);
        e.by("42", "than it has (4; it not FOUND: NONE). NONE.");
        for (int child : new int[] {-1, 6, 120, LOW, HIGH}) {
            e.due("no child " + child, y.like(child, 0, 0), -1);
        }
        for (int facts : new int[] {-1, 256, LOW, HIGH}) {
            e.due("no facts " + facts, y.like(0, facts, 0), -1);
        }
        for (int what : new int[] {-1, 5, LOW, HIGH}) {
            e.due("no what " + what, y.like(0, 0, what), -1);
        }
        e.due("the last one", y.like(5, 255, 0), 5);
    }
}
